set_option linter.all false
/-! the code tables are the machine's code; the run; what it gives -/
def xTs (Tc : List (List Jvm.Cond)) : List Jvm.Cond := (Tc.map (fun r => r.filter goodWord)).flatten
def xNs (Tc : List (List Jvm.Cond)) : List Jvm.Cond := (Tc.map (fun r => r.filter xNw)).flatten
def xwd (Tc : List (List Jvm.Cond)) (i : Nat) (w : Jvm.Cond) : Bool := decide ((Tc[i / 1024]?).bind (fun r => r[i % 1024]?) = some w)
def xwg (Tc : List (List Jvm.Cond)) (i : Nat) (w : Jvm.Cond) : Bool := xwd Tc i w && goodWord w
def xwn (Tc : List (List Jvm.Cond)) (i : Nat) (w : Jvm.Cond) : Bool := xwd Tc i w && xNw w
theorem xwd_of {Tc : List (List Jvm.Cond)} {i : Nat} {w : Jvm.Cond} (h : xwd Tc i w = true) : ∃ r ∈ Tc, w ∈ r := by
  have h := of_decide_eq_true h
  obtain ⟨r, h1, h2⟩ := Option.bind_eq_some_iff.mp h
  exact ⟨r, List.mem_of_getElem? h1, List.mem_of_getElem? h2⟩
theorem xwg_of {Tc : List (List Jvm.Cond)} {i : Nat} {w : Jvm.Cond} (h : xwg Tc i w = true) : w ∈ xTs Tc := by
  obtain ⟨h1, h2⟩ := Bool.and_eq_true_iff.mp h
  obtain ⟨r, q1, q2⟩ := xwd_of h1
  exact List.mem_flatten.mpr ⟨_, List.mem_map.mpr ⟨r, q1, rfl⟩, List.mem_filter.mpr ⟨q2, h2⟩⟩
theorem xwn_of {Tc : List (List Jvm.Cond)} {i : Nat} {w : Jvm.Cond} (h : xwn Tc i w = true) : w ∈ xNs Tc := by
  obtain ⟨h1, h2⟩ := Bool.and_eq_true_iff.mp h
  obtain ⟨r, q1, q2⟩ := xwd_of h1
  exact List.mem_flatten.mpr ⟨_, List.mem_map.mpr ⟨r, q1, rfl⟩, List.mem_filter.mpr ⟨q2, h2⟩⟩
theorem xTs_good (Tc : List (List Jvm.Cond)) : ∀ w ∈ xTs Tc, goodWord w = true := by
  intro w hw
  obtain ⟨r, h1, h2⟩ := List.mem_flatten.mp hw
  obtain ⟨q, -, rfl⟩ := List.mem_map.mp h1
  exact (List.mem_filter.mp h2).2
theorem xNs_good (Tc : List (List Jvm.Cond)) : ∀ w ∈ xNs Tc, xNw w = true := by
  intro w hw
  obtain ⟨r, h1, h2⟩ := List.mem_flatten.mp hw
  obtain ⟨q, -, rfl⟩ := List.mem_map.mp h1
  exact (List.mem_filter.mp h2).2
/-- the word that tells a method's code, compared byte by byte -/
def xbl : List UInt8 → List UInt8 → Bool
  | [], [] => true
  | x :: l, y :: r => Bool.and (Nat.beq x.toNat y.toNat) (xbl l r)
  | _, _ => false
theorem xbl_of : ∀ {l r : List UInt8}, xbl l r = true → l = r := by
  intro l
  induction l with
  | nil =>
    intro r h
    cases r with
    | nil => rfl
    | cons _ _ => cases h
  | cons x l ih =>
    intro r h
    cases r with
    | nil => cases h
    | cons y r =>
      obtain ⟨h1, h2⟩ := Bool.and_eq_true_iff.mp (show (Nat.beq x.toNat y.toNat && xbl l r) = true from h)
      rw [UInt8.toNat_inj.mp (Nat.eq_of_beq_eq_true h1), ih h2]
def xwc (Tc : List (List Jvm.Cond)) (i : Nat) (mc : xM) : Bool := match (Tc[i / 1024]?).bind (fun r => r[i % 1024]?) with
  | some (.code x bs ml ret) => decide (x = mc.1) && xbl bs.data.toList mc.2.1.data.toList && decide (ml = mc.2.2.1 ∧ ret = mc.2.2.2.1) && goodWord (.code x bs ml ret)
  | _ => false
theorem xwc_of {Tc : List (List Jvm.Cond)} {i : Nat} {mc : xM} (h : xwc Tc i mc = true) : Jvm.Cond.code mc.1 mc.2.1 mc.2.2.1 mc.2.2.2.1 ∈ xTs Tc := by
  unfold xwc at h
  split at h
  · next x bs ml ret e =>
    obtain ⟨h1, h2⟩ := Bool.and_eq_true_iff.mp h
    obtain ⟨h3, h4⟩ := Bool.and_eq_true_iff.mp h1
    obtain ⟨h5, h6⟩ := Bool.and_eq_true_iff.mp h3
    have e1 : x = mc.1 := of_decide_eq_true h5
    have e2 : bs = mc.2.1 := ByteArray.ext (Array.toList_inj.mp (xbl_of h6))
    obtain ⟨e3, e4⟩ := of_decide_eq_true h4
    rw [← e1, ← e2, ← e3, ← e4]
    obtain ⟨r, q1, q2⟩ := Option.bind_eq_some_iff.mp e
    exact List.mem_flatten.mpr ⟨_, List.mem_map.mpr ⟨r, List.mem_of_getElem? q1, rfl⟩, List.mem_filter.mpr ⟨List.mem_of_getElem? q2, h2⟩⟩
  · cases h
/-- which of the three words of 'new' stands where: packed in one number -/
def xb1 (b : Nat) : Nat := b % 1048576
def xb2 (b : Nat) : Nat := b / 1048576 % 1048576
def xb3 (b : Nat) : Nat := b / 1099511627776
def xcnd : Jvm.ClassFile.Cond → Nat
  | .eq => 0
  | .ne => 1
  | .lt => 2
  | .ge => 3
  | .gt => 4
  | .le => 5
/-- the callee's part of a call's check -/
def xokCall (Tc : List (List Jvm.Cond)) (Ms : List xM) (cl : List vw_C) (me : xM) (ins : Instr) (idx kind a b : Nat) (l : List Nat) : Bool := match Ms[b]? with
  | none => false
  | some mc => match parseMethodDescriptor mc.1.desc with
    | none => false
    | some sg => decide (l.getD 1 9 = kind) && decide (mc.1.cls ≠ "java/lang/invoke/MethodHandle" ∧ mc.1.cls ≠ "java/lang/invoke/VarHandle") && decide ((xR mc).frames + 1 ≤ (xR me).frames ∧ 8 + (mc.2.2.1 + 11) + (xR mc).locals ≤ (xR me).locals) && xwg Tc (l.getD 7 0) (.initialized mc.1.cls)
      && (if l.getD 3 0 = 0 then xwg Tc (l.getD 2 0) (.methodLink me.1.cls idx mc.1) else xwn Tc (l.getD 2 0) (.methodLinkNest me.1.cls idx mc.1 "AcidCity"))
      && (if kind = 0 then decide (a = sg.parameters.length) && xwg Tc (l.getD 4 0) (.static mc.1)
          else decide (a = sg.parameters.length + 1) && xwg Tc (l.getD 4 0) (.instanceMethod mc.1) && decide (l.getD 0 0 ≠ 0 ∧ l.getD 0 0 ≤ 100) && (match cl[l.getD 0 0 - 1]? with | some q => decide (q.1 = mc.1.cls) | none => false)
            && (if kind = 1 then xwg Tc (l.getD 5 0) (.selects mc.1.cls mc.1 mc.1) else decide (mc.2.2.2.1 = none ∧ mc.1.name = "<init>")))
def xokNew (Tc : List (List Jvm.Cond)) (cl : List vw_C) (me : xM) (idx a b : Nat) (l : List Nat) : Bool := match cl[a]? with
  | none => false
  | some q => decide (l.length = q.2.2 ∧ q.2.2 ≤ 64) && (List.range q.2.2).all (fun k => match parseFieldDescriptor (q.2.1 k).2.2.1 with | some ty => decide (l[k]? = some (xkt ty) ∧ xkt ty ≠ 9) | none => false) && xwg Tc (xb1 b) (.classLink me.1.cls idx q.1) && xwg Tc (xb2 b) (.instantiable q.1 q.2.2) && xwg Tc (xb3 b) (.initialized q.1)
def xokGet (Tc : List (List Jvm.Cond)) (cl : List vw_C) (me : xM) (idx a b : Nat) (l : List Nat) : Bool := match cl[a]? with
  | none => false
  | some q => decide (b < q.2.2) && xwg Tc (l.getD 0 0) (.fieldLink me.1.cls idx (q.2.1 b).1 (q.2.1 b).2.1 (q.2.1 b).2.2.1)
def xokPut (Tc : List (List Jvm.Cond)) (cl : List vw_C) (me : xM) (idx a b : Nat) (l : List Nat) : Bool := match cl[a]? with
  | none => false
  | some q => match parseFieldDescriptor (q.2.1 b).2.2.1 with
    | none => false
    | some ty => decide (b < q.2.2) && xwg Tc (l.getD 1 0) (.fieldLink me.1.cls idx (q.2.1 b).1 (q.2.1 b).2.1 (q.2.1 b).2.2.1) && decide ((q.2.1 b).2.2.2 = false ∨ ((q.2.1 b).2.2.2 = true ∧ me.1.name = "<init>" ∧ (q.2.1 b).1 = me.1.cls)) && decide (l.getD 0 9 = xkt ty)
def xokTab (pc a b : Nat) (l : List Nat) (dflt lo hi : Int) (offs : Array Int) : Bool := decide ((a : Int) = lo + 2147483648 ∧ (pc : Int) + dflt = (b : Int) ∧ hi = lo + (l.length : Int) - 1 ∧ offs.toList.map (fun o => (pc : Int) + o) = l.map (fun t : Nat => (t : Int)))
theorem xokTab_of {pc a b : Nat} {l : List Nat} {dflt lo hi : Int} {offs : Array Int} (h : xokTab pc a b l dflt lo hi offs = true) : xTab pc a b l dflt lo hi offs := by
  unfold xokTab at h
  have h := of_decide_eq_true h
  exact h
/-- op, operands and the machine's instruction fit -/
def xokI (Tc : List (List Jvm.Cond)) (Ms : List xM) (cl : List vw_C) (tys : List FieldType) (me : xM) (pc : Nat) (ins : Instr) (len op a b : Nat) (l : List Nat) : Bool := match ins with
  | .iconst i => decide (op = 0 ∧ len = 1) && (decide (Int32.ofInt i = nI a))
  | .bipush i => decide (op = 0 ∧ len = 2) && (decide ((Int8.ofInt i).toInt32 = nI a))
  | .sipush i => decide (op = 0 ∧ len = 3) && (decide ((Int16.ofInt i).toInt32 = nI a))
  | .ldc i => decide (op = 0 ∧ len = 2) && (xwg Tc (l.getD 0 0) (.constant me.1.cls i (nI a)))
  | .ldc_w i => decide (op = 0 ∧ len = 3) && (xwg Tc (l.getD 0 0) (.constant me.1.cls i (nI a)))
  | .lconst i => decide (op = 1 ∧ len = 1) && (decide (Int64.ofNat (i : Nat) = lN a))
  | .ldc2_w i => decide (op = 1 ∧ len = 3) && (xwg Tc (l.getD 0 0) (.constantLong me.1.cls i (lN a)))
  | .aconst_null => decide (op = 2 ∧ len = 1)
  | .iload i => decide (op = 3 ∧ len = 2) && (decide (i = a ∧ b = 0))
  | .iload_n i => decide (op = 3 ∧ len = 1) && (decide ((i : Nat) = a ∧ b = 0))
  | .lload i => decide (op = 3 ∧ len = 2) && (decide (i = a ∧ b = 2))
  | .lload_n i => decide (op = 3 ∧ len = 1) && (decide ((i : Nat) = a ∧ b = 2))
  | .aload i => decide (op = 3 ∧ len = 2) && (decide (i = a ∧ b = 1))
  | .aload_n i => decide (op = 3 ∧ len = 1) && (decide ((i : Nat) = a ∧ b = 1))
  | .istore i => decide (op = 4 ∧ len = 2) && (decide (i = a ∧ b = 0 ∧ a < me.2.2.1))
  | .istore_n i => decide (op = 4 ∧ len = 1) && (decide ((i : Nat) = a ∧ b = 0 ∧ a < me.2.2.1))
  | .lstore i => decide (op = 4 ∧ len = 2) && (decide (i = a ∧ b = 2 ∧ a + 1 < me.2.2.1))
  | .lstore_n i => decide (op = 4 ∧ len = 1) && (decide ((i : Nat) = a ∧ b = 2 ∧ a + 1 < me.2.2.1))
  | .astore i => decide (op = 4 ∧ len = 2) && (decide (i = a ∧ b = 1 ∧ a < me.2.2.1))
  | .astore_n i => decide (op = 4 ∧ len = 1) && (decide ((i : Nat) = a ∧ b = 1 ∧ a < me.2.2.1))
  | .iinc i n => decide (op = 5 ∧ len = 3) && (decide (i = a ∧ Int32.ofInt n = nI b ∧ a < me.2.2.1))
  | .iadd => decide (op = 6 ∧ len = 1) && (decide (a = 0))
  | .isub => decide (op = 6 ∧ len = 1) && (decide (a = 1))
  | .imul => decide (op = 6 ∧ len = 1) && (decide (a = 2))
  | .iand => decide (op = 6 ∧ len = 1) && (decide (a = 3))
  | .ior => decide (op = 6 ∧ len = 1) && (decide (a = 4))
  | .ixor => decide (op = 6 ∧ len = 1) && (decide (a = 5))
  | .ishl => decide (op = 6 ∧ len = 1) && (decide (a = 6))
  | .ishr => decide (op = 6 ∧ len = 1) && (decide (a = 7))
  | .iushr => decide (op = 6 ∧ len = 1) && (decide (a = 8))
  | .idiv => decide (op = 7 ∧ len = 1) && (decide (a = 0))
  | .irem => decide (op = 7 ∧ len = 1) && (decide (a = 1))
  | .ineg => decide (op = 8 ∧ len = 1) && (decide (a = 0))
  | .i2b => decide (op = 8 ∧ len = 1) && (decide (a = 1))
  | .i2s => decide (op = 8 ∧ len = 1) && (decide (a = 2))
  | .i2c => decide (op = 8 ∧ len = 1) && (decide (a = 3))
  | .i2l => decide (op = 9 ∧ len = 1)
  | .l2i => decide (op = 10 ∧ len = 1)
  | .ladd => decide (op = 11 ∧ len = 1) && (decide (a = 0))
  | .lsub => decide (op = 11 ∧ len = 1) && (decide (a = 1))
  | .lmul => decide (op = 11 ∧ len = 1) && (decide (a = 2))
  | .land => decide (op = 11 ∧ len = 1) && (decide (a = 3))
  | .lor => decide (op = 11 ∧ len = 1) && (decide (a = 4))
  | .lxor => decide (op = 11 ∧ len = 1) && (decide (a = 5))
  | .ldiv => decide (op = 12 ∧ len = 1) && (decide (a = 0))
  | .lrem => decide (op = 12 ∧ len = 1) && (decide (a = 1))
  | .lshl => decide (op = 13 ∧ len = 1) && (decide (a = 0))
  | .lshr => decide (op = 13 ∧ len = 1) && (decide (a = 1))
  | .lushr => decide (op = 13 ∧ len = 1) && (decide (a = 2))
  | .lcmp => decide (op = 14 ∧ len = 1)
  | .dup => decide (op = 15 ∧ len = 1)
  | .pop => decide (op = 16 ∧ len = 1)
  | .dup_x1 => decide (op = 17 ∧ len = 1)
  | .dup_x2 => decide (op = 18 ∧ len = 1)
  | .dup2 => decide (op = 19 ∧ len = 1)
  | .ifCond .eq o => decide (op = 20 ∧ len = 3) && (decide ((pc : Int) + o = (b : Int) ∧ a = 0))
  | .ifCond .ne o => decide (op = 20 ∧ len = 3) && (decide ((pc : Int) + o = (b : Int) ∧ a = 1))
  | .ifCond .lt o => decide (op = 20 ∧ len = 3) && (decide ((pc : Int) + o = (b : Int) ∧ a = 2))
  | .ifCond .ge o => decide (op = 20 ∧ len = 3) && (decide ((pc : Int) + o = (b : Int) ∧ a = 3))
  | .ifCond .gt o => decide (op = 20 ∧ len = 3) && (decide ((pc : Int) + o = (b : Int) ∧ a = 4))
  | .ifCond .le o => decide (op = 20 ∧ len = 3) && (decide ((pc : Int) + o = (b : Int) ∧ a = 5))
  | .if_icmp .eq o => decide (op = 21 ∧ len = 3) && (decide ((pc : Int) + o = (b : Int) ∧ a = 0))
  | .if_icmp .ne o => decide (op = 21 ∧ len = 3) && (decide ((pc : Int) + o = (b : Int) ∧ a = 1))
  | .if_icmp .lt o => decide (op = 21 ∧ len = 3) && (decide ((pc : Int) + o = (b : Int) ∧ a = 2))
  | .if_icmp .ge o => decide (op = 21 ∧ len = 3) && (decide ((pc : Int) + o = (b : Int) ∧ a = 3))
  | .if_icmp .gt o => decide (op = 21 ∧ len = 3) && (decide ((pc : Int) + o = (b : Int) ∧ a = 4))
  | .if_icmp .le o => decide (op = 21 ∧ len = 3) && (decide ((pc : Int) + o = (b : Int) ∧ a = 5))
  | .goto o => decide (op = 22 ∧ len = 3) && (decide ((pc : Int) + o = (b : Int)))
  | .ifnull o => decide (op = 23 ∧ len = 3) && (decide ((pc : Int) + o = (b : Int) ∧ a = 0))
  | .ifnonnull o => decide (op = 23 ∧ len = 3) && (decide ((pc : Int) + o = (b : Int) ∧ a = 1))
  | .tableswitch dflt lo hi offs => decide (op = 24) && (xokTab pc a b l dflt lo hi offs)
  | .getfield i => decide (op = 25 ∧ len = 3) && (decide (a < 100) && xokGet Tc cl me i a b l)
  | .putfield i => decide (op = 26 ∧ len = 3) && (decide (a < 100) && xokPut Tc cl me i a b l)
  | .new i => decide (op = 27 ∧ len = 3) && (decide (a < 100) && xokNew Tc cl me i a b l)
  | .newarray t => decide (op = 28 ∧ len = 2) && (decide (100 ≤ a ∧ tys[a - 100]? = some (Jvm.Op.newarray.typeOf t) ∧ b = xkt (Jvm.Op.newarray.typeOf t) ∧ b ≠ 9 ∧ componentBytes (Jvm.Op.newarray.typeOf t) ≤ 8) && xwg Tc (l.getD 0 0) (.arrayClass (Jvm.Op.newarray.typeOf t)))
  | .multianewarray i d => decide (op = 29 ∧ len = 4) && (decide (d = 2 ∧ tys[0]? = some .int ∧ tys[2]? = some (.array .int)) && xwg Tc (l.getD 0 0) (.classLink me.1.cls i ("[" ++ (FieldType.array .int).toString)) && xwg Tc (l.getD 1 0) (.arrayClass .int))
  | .arraylength => decide (op = 30 ∧ len = 1) && (decide (b = 100 + tys.length))
  | .iaload => decide (op = 31 ∧ len = 1) && (decide (100 ≤ a ∧ tys[a - 100]? = some .int))
  | .laload => decide (op = 31 ∧ len = 1) && (decide (100 ≤ a ∧ tys[a - 100]? = some .long))
  | .aaload => decide (op = 31 ∧ len = 1) && (decide (100 ≤ a ∧ tys[a - 100]? = some (.array .int)))
  | .iastore => decide (op = 32 ∧ len = 1) && (decide (100 ≤ a ∧ tys[a - 100]? = some .int ∧ b = 0))
  | .lastore => decide (op = 32 ∧ len = 1) && (decide (100 ≤ a ∧ tys[a - 100]? = some .long ∧ b = 2))
  | .ireturn => decide (op = 35 ∧ len = 1) && (decide ((me.2.2.2.1 = some .int ∧ a = 0) ∨ (me.2.2.2.1 = some .boolean ∧ a = 3)))
  | .lreturn => decide (op = 35 ∧ len = 1) && (decide (me.2.2.2.1 = some .long ∧ a = 2))
  | .return_ => decide (op = 36 ∧ len = 1) && (decide (me.2.2.2.1 = none))
  | .invokestatic i => decide (len = 3) && ((decide (op = 33) && xokCall Tc Ms cl me (.invokestatic i) i 0 a b l) || (decide (op = 37 ∧ 1 ≤ (xR me).frames) && ((decide (a = 0) && xwg Tc (l.getD 0 0) (.methodLink me.1.cls i Lib.Math.min.name) && xwg Tc (l.getD 1 0) (.static Lib.Math.min.name) && xwg Tc (l.getD 2 0) (.code Lib.Math.min.name Lib.Math.min.code 2 (some .int))) || (decide (a = 1) && xwg Tc (l.getD 0 0) (.methodLink me.1.cls i Lib.Math.max.name) && xwg Tc (l.getD 1 0) (.static Lib.Math.max.name) && xwg Tc (l.getD 2 0) (.code Lib.Math.max.name Lib.Math.max.code 2 (some .int)))) && xwg Tc (l.getD 3 0) (.initialized "java/lang/Math")) || (decide (op = 38 ∧ 1 ≤ (xR me).frames ∧ tys[0]? = some .int) && xwg Tc (l.getD 0 0) (.methodLink me.1.cls i arraycopyName) && xwg Tc (l.getD 1 0) (.native arraycopyName) && xwg Tc (l.getD 2 0) (.static arraycopyName) && xwg Tc (l.getD 3 0) (.initialized "java/lang/System")))
  | .invokevirtual i => decide (len = 3) && (decide (op = 33) && xokCall Tc Ms cl me (.invokevirtual i) i 1 a b l)
  | .invokespecial i => decide (len = 3) && ((decide (op = 33) && xokCall Tc Ms cl me (.invokespecial i) i 2 a b l) || (decide (op = 34 ∧ 1 ≤ (xR me).frames) && xwg Tc (l.getD 0 0) (.methodLink me.1.cls i Lib.objectInit) && xwg Tc (l.getD 1 0) (.instanceMethod Lib.objectInit) && xwg Tc (l.getD 2 0) (.code Lib.objectInit ⟨#[0xb1]⟩ 1 none)))
  | _ => false
/-- an entry of a code table: op 60 is never carried out -/
def xoke (Tc : List (List Jvm.Cond)) (Ms : List xM) (cl : List vw_C) (tys : List FieldType) (me : xM) (i : xI) (cs : List xI) : Bool := match decode me.2.1 i.1 with
  | .ok (ins, len) => (Nat.beq i.2.1 60 || xokI Tc Ms cl tys me i.1 ins len i.2.1 i.2.2.1 i.2.2.2.1 i.2.2.2.2) && (match cs with | [] => true | j :: _ => Nat.beq j.1 (i.1 + len))
  | .error _ => false
def xokc (Tc : List (List Jvm.Cond)) (Ms : List xM) (cl : List vw_C) (tys : List FieldType) (me : xM) : List xI → Bool
  | [] => true
  | i :: cs => xoke Tc Ms cl tys me i cs && xokc Tc Ms cl tys me cs
theorem xokc_suf {Tc : List (List Jvm.Cond)} {Ms : List xM} {cl : List vw_C} {tys : List FieldType} {me : xM} {c r : List xI} (h : xokc Tc Ms cl tys me c = true) (hs : r <:+ c) : xokc Tc Ms cl tys me r = true := by
  induction c with
  | nil => rw [List.suffix_nil.mp hs]; rfl
  | cons i c ih =>
    rcases List.suffix_cons_iff.mp hs with rfl | hs
    · exact h
    · exact ih (Bool.and_eq_true_iff.mp h).2 hs
noncomputable def xhs (Ms : List xM) : List (List xHd) := [[xo_iconst, xo_lconst, xo_null, xo_load, xo_store, xo_iinc, xo_ibin, xo_idiv], [xo_iun, xo_i2l, xo_l2i, xo_lbin, xo_ldiv, xo_lsh, xo_lcmp, xo_dup], [xo_pop, xo_dupx1, xo_dupx2, xo_dup2, xo_if, xo_icmp, xo_goto, xo_ifnull], [xo_table, xo_getf, xo_putf, xo_new, xo_newa, xo_mna, xo_alen, xo_ald], [xo_ast, xo_call Ms, xo_oinit, xo_iret, xo_ret, xo_mm, xo_copy]]
noncomputable def xstep (Ms : List xM) (ih : xIh) : xIh := fun me cs A k => match cs with
  | [] => false
  | i :: cs => xnth (xhs Ms) (fun r => xnth r (fun f => f ih me cs i.2.2.1 i.2.2.2.1 i.2.2.2.2 A k) (Nat.mod i.2.1 8)) (Nat.div i.2.1 8)
noncomputable def xrun (Ms : List xM) (n : Nat) : xIh := Nat.rec (motive := fun _ => xIh) (fun _ _ _ _ => false) (fun _ ih => xstep Ms ih) n
/-- what is to hold of the tables -/
def xGl (Tc : List (List Jvm.Cond)) (Ms : List xM) (cl : List vw_C) (tys : List FieldType) : Prop := (∀ (ci : Nat) (C : String) (T : u_T) (N : Nat), cl[ci]? = some (C, T, N) → xTb (xTs Tc) C T N) ∧ ∀ mc ∈ Ms, plainFor mc.1 = true ∧ xokc Tc Ms cl tys mc (xcd mc) = true ∧ xatp 0 (xcd mc) ∧ Jvm.Cond.code mc.1 mc.2.1 mc.2.2.1 mc.2.2.2.1 ∈ xTs Tc
section XS
variable {ρ : Nat → Int32} {base : Nat} {F : Nat → Prop} {Tc : List (List Jvm.Cond)} {cl : List vw_C} {tys : List FieldType} {D : va_G} {dA : Nat → ClassId} {la : Launch} {Ms : List xM} {ih : xIh} {me : xM} {cs : List xI} {a b : Nat} {l : List Nat} {A : xA} {k : xK} {pc : Nat}
theorem xs_call {ins : Instr} {idx kind : Nat} (hkd : kind < 3) (hins : ins = (if kind = 0 then .invokestatic idx else if kind = 1 then .invokevirtual idx else .invokespecial idx)) (hG : xGl Tc Ms cl tys) (IH : xIH ρ base F (xTs Tc) (xNs Tc) cl tys D dA la (xokc Tc Ms cl tys) Ms ih) (hme : me ∈ Ms) (hok : xokc Tc Ms cl tys me cs = true) (hnx : xatp (pc + 3) cs) (hd : decode me.2.1 pc = .ok (ins, 3)) (hq : xokCall Tc Ms cl me ins idx kind a b l = true) (h : xo_call Ms ih me cs a b l A k = true) : xGd ρ base F (xTs Tc) (xNs Tc) cl tys D dA la me pc A k := by
  unfold xokCall at hq
  cases hmc : Ms[b]? with
  | none => rw [hmc] at hq; exact absurd hq (by simp)
  | some mc =>
    rw [hmc] at hq
    simp only [] at hq
    cases hsg : parseMethodDescriptor mc.1.desc with
    | none => rw [hsg] at hq; exact absurd hq (by simp)
    | some sg =>
      rw [hsg] at hq
      simp only [Bool.and_eq_true] at hq
      obtain ⟨⟨⟨⟨⟨q1, q2⟩, q3⟩, q5⟩, q6⟩, q7⟩ := hq
      have q2 := of_decide_eq_true q2
      have q3 := of_decide_eq_true q3
      obtain ⟨g1, g2, g3, q4⟩ := hG.2 mc (List.mem_of_getElem? hmc)
      have hlk : Jvm.Cond.methodLink me.1.cls idx mc.1 ∈ xTs Tc ∨ ∃ host, Jvm.Cond.methodLinkNest me.1.cls idx mc.1 host ∈ xNs Tc := by
        split at q6
        · exact Or.inl (xwg_of q6)
        · exact Or.inr ⟨_, xwn_of q6⟩
      refine xl_call (idx := idx) (n := sg.parameters.length) (kind := kind) (xTs_good Tc) (xNs_good Tc) IH hme hok hnx hd hmc ⟨g1, g2, g3, q4, xwg_of q5, ⟨q2.1, q2.2, by rw [hsg]; rfl⟩, q3⟩ ?_ h
      by_cases c0 : kind = 0
      · rw [if_pos c0] at q7
        simp only [Bool.and_eq_true] at q7
        exact Or.inl ⟨c0, by rw [hins, if_pos c0], of_decide_eq_true q7.1, xwg_of q7.2, hlk⟩
      · rw [if_neg c0] at q7
        simp only [Bool.and_eq_true] at q7
        obtain ⟨⟨⟨⟨r1, r2⟩, r3⟩, r4⟩, r5⟩ := q7
        have r3 := of_decide_eq_true r3
        have hrc : ∃ ci T N, l.getD 0 0 = ci + 1 ∧ ci < 100 ∧ cl[ci]? = some (mc.1.cls, T, N) := by
          cases hc : cl[l.getD 0 0 - 1]? with
          | none => rw [hc] at r4; exact absurd r4 (by simp)
          | some q =>
            rw [hc] at r4
            have r4 : q.1 = mc.1.cls := of_decide_eq_true r4
            exact ⟨l.getD 0 0 - 1, q.2.1, q.2.2, by omega, by omega, by rw [hc, ← r4]⟩
        by_cases c1 : kind = 1
        · rw [if_pos c1] at r5
          exact Or.inr (Or.inl ⟨c1, by rw [hins, if_neg c0, if_pos c1], of_decide_eq_true r1, xwg_of r2, xwg_of r5, hrc, hlk⟩)
        · rw [if_neg c1] at r5
          have r5 := of_decide_eq_true r5
          exact Or.inr (Or.inr ⟨by omega, by rw [hins, if_neg c0, if_neg c1], of_decide_eq_true r1, r5.1, r5.2, xwg_of r2, hrc, hlk⟩)
theorem xs_get {idx : Nat} (hG : xGl Tc Ms cl tys) (IH : xIH ρ base F (xTs Tc) (xNs Tc) cl tys D dA la (xokc Tc Ms cl tys) Ms ih) (hme : me ∈ Ms) (hok : xokc Tc Ms cl tys me cs = true) (hnx : xatp (pc + 3) cs) (hd : decode me.2.1 pc = .ok (.getfield idx, 3)) (ha : a < 100) (hq : xokGet Tc cl me idx a b l = true) (h : xo_getf ih me cs a b l A k = true) : xGd ρ base F (xTs Tc) (xNs Tc) cl tys D dA la me pc A k := by
  unfold xokGet at hq
  cases hc : cl[a]? with
  | none => rw [hc] at hq; exact absurd hq (by simp)
  | some q =>
    obtain ⟨C, T, N⟩ := q
    rw [hc] at hq
    simp only [Bool.and_eq_true] at hq
    exact xl_getf IH hme hok hnx hd ha hc (of_decide_eq_true hq.1) (hG.1 a C T N hc).1 (xwg_of hq.2) h
theorem xs_put {idx : Nat} (hG : xGl Tc Ms cl tys) (IH : xIH ρ base F (xTs Tc) (xNs Tc) cl tys D dA la (xokc Tc Ms cl tys) Ms ih) (hme : me ∈ Ms) (hok : xokc Tc Ms cl tys me cs = true) (hnx : xatp (pc + 3) cs) (hd : decode me.2.1 pc = .ok (.putfield idx, 3)) (ha : a < 100) (hq : xokPut Tc cl me idx a b l = true) (h : xo_putf ih me cs a b l A k = true) : xGd ρ base F (xTs Tc) (xNs Tc) cl tys D dA la me pc A k := by
  unfold xokPut at hq
  cases hc : cl[a]? with
  | none => rw [hc] at hq; exact absurd hq (by simp)
  | some q =>
    obtain ⟨C, T, N⟩ := q
    rw [hc] at hq
    simp only [] at hq
    cases hp : parseFieldDescriptor (T b).2.2.1 with
    | none => rw [hp] at hq; exact absurd hq (by simp)
    | some ty =>
      rw [hp] at hq
      simp only [Bool.and_eq_true] at hq
      obtain ⟨⟨⟨r1, r2⟩, r3⟩, r4⟩ := hq
      exact xl_putf IH hme hok hnx hd ha hc (of_decide_eq_true r1) (hG.1 a C T N hc) (Or.inl ⟨xwg_of r2, of_decide_eq_true r3⟩) hp (of_decide_eq_true r4) h
theorem xs_new {idx : Nat} (hG : xGl Tc Ms cl tys) (IH : xIH ρ base F (xTs Tc) (xNs Tc) cl tys D dA la (xokc Tc Ms cl tys) Ms ih) (hme : me ∈ Ms) (hok : xokc Tc Ms cl tys me cs = true) (hnx : xatp (pc + 3) cs) (hd : decode me.2.1 pc = .ok (.new idx, 3)) (ha : a < 100) (hq : xokNew Tc cl me idx a b l = true) (h : xo_new ih me cs a b l A k = true) : xGd ρ base F (xTs Tc) (xNs Tc) cl tys D dA la me pc A k := by
  unfold xokNew at hq
  cases hc : cl[a]? with
  | none => rw [hc] at hq; exact absurd hq (by simp)
  | some q =>
    obtain ⟨C, T, N⟩ := q
    rw [hc] at hq
    simp only [Bool.and_eq_true] at hq
    obtain ⟨⟨⟨⟨r1, r2⟩, r3⟩, r4⟩, r5⟩ := hq
    have r1 := of_decide_eq_true r1
    obtain ⟨hu, ⟨ty, hty⟩, -⟩ := hG.1 a C T N hc
    refine xl_new ty IH hme hok hnx hd ha hc hu hty r1.1 r1.2 (fun j hj => ?_) (xwg_of r3) (xwg_of r4) (xwg_of r5) h
    have := List.all_eq_true.mp r2 j (List.mem_range.mpr hj)
    rw [hty j hj] at this
    exact of_decide_eq_true this
set_option maxHeartbeats 4000000 in
theorem xstep_ok (hG : xGl Tc Ms cl tys) (IH : xIH ρ base F (xTs Tc) (xNs Tc) cl tys D dA la (xokc Tc Ms cl tys) Ms ih) : xIH ρ base F (xTs Tc) (xNs Tc) cl tys D dA la (xokc Tc Ms cl tys) Ms (xstep Ms ih) := by
  intro me cs A k pc hme h0 hokc hat
  cases cs with
  | nil => exact absurd h0 (by simp [xstep])
  | cons i cs =>
    obtain ⟨pc', op, a, b, l⟩ := i
    have hpc : pc' = pc := hat _ _ rfl
    obtain rfl : pc = pc' := hpc.symm
    have h : xnth (xhs Ms) (fun r => xnth r (fun f => f ih me cs a b l A k) (Nat.mod op 8)) (Nat.div op 8) = true := h0
    obtain ⟨hoke, hok⟩ := Bool.and_eq_true_iff.mp hokc
    have hj : ∀ i r, (i :: r) <:+ xcd me → xokc Tc Ms cl tys me (i :: r) = true := fun i r hs => xokc_suf (hG.2 me hme).2.1 hs
    unfold xoke at hoke
    simp only [] at hoke
    split at hoke
    · next ins len hd =>
      obtain ⟨hI0, hnx0⟩ := Bool.and_eq_true_iff.mp hoke
      have hnx : xatp (pc + len) cs := by
        intro j r e
        subst e
        exact Nat.eq_of_beq_eq_true hnx0
      rcases Bool.or_eq_true_iff.mp hI0 with q60 | hI
      · have e60 := Nat.eq_of_beq_eq_true q60
        subst e60
        exact absurd h (by change ¬ (false = true); decide)
      · clear hI0 hoke h0
        cases ins
        case iconst i =>
          obtain ⟨hq0, hq⟩ := Bool.and_eq_true_iff.mp (show (decide (op = 0 ∧ len = 1) && (decide (Int32.ofInt i = nI a))) = true from hI)
          obtain ⟨rfl, rfl⟩ := of_decide_eq_true hq0
          exact xl_iconst (a := a) (b := b) (l := l) IH hme hok hnx hd (of_decide_eq_true hq) h
        case bipush i =>
          obtain ⟨hq0, hq⟩ := Bool.and_eq_true_iff.mp (show (decide (op = 0 ∧ len = 2) && (decide ((Int8.ofInt i).toInt32 = nI a))) = true from hI)
          obtain ⟨rfl, rfl⟩ := of_decide_eq_true hq0
          exact xl_bipush (a := a) (b := b) (l := l) IH hme hok hnx hd (of_decide_eq_true hq) h
        case sipush i =>
          obtain ⟨hq0, hq⟩ := Bool.and_eq_true_iff.mp (show (decide (op = 0 ∧ len = 3) && (decide ((Int16.ofInt i).toInt32 = nI a))) = true from hI)
          obtain ⟨rfl, rfl⟩ := of_decide_eq_true hq0
          exact xl_sipush (a := a) (b := b) (l := l) IH hme hok hnx hd (of_decide_eq_true hq) h
        case ldc i =>
          obtain ⟨hq0, hq⟩ := Bool.and_eq_true_iff.mp (show (decide (op = 0 ∧ len = 2) && (xwg Tc (l.getD 0 0) (.constant me.1.cls i (nI a)))) = true from hI)
          obtain ⟨rfl, rfl⟩ := of_decide_eq_true hq0
          exact xl_ldc (a := a) (b := b) (l := l) IH hme hok hnx hd (xwg_of hq) h
        case ldc_w i =>
          obtain ⟨hq0, hq⟩ := Bool.and_eq_true_iff.mp (show (decide (op = 0 ∧ len = 3) && (xwg Tc (l.getD 0 0) (.constant me.1.cls i (nI a)))) = true from hI)
          obtain ⟨rfl, rfl⟩ := of_decide_eq_true hq0
          exact xl_ldcw (a := a) (b := b) (l := l) IH hme hok hnx hd (xwg_of hq) h
        case lconst i =>
          obtain ⟨hq0, hq⟩ := Bool.and_eq_true_iff.mp (show (decide (op = 1 ∧ len = 1) && (decide (Int64.ofNat (i : Nat) = lN a))) = true from hI)
          obtain ⟨rfl, rfl⟩ := of_decide_eq_true hq0
          exact xl_lconst (a := a) (b := b) (l := l) IH hme hok hnx hd (of_decide_eq_true hq) h
        case ldc2_w i =>
          obtain ⟨hq0, hq⟩ := Bool.and_eq_true_iff.mp (show (decide (op = 1 ∧ len = 3) && (xwg Tc (l.getD 0 0) (.constantLong me.1.cls i (lN a)))) = true from hI)
          obtain ⟨rfl, rfl⟩ := of_decide_eq_true hq0
          exact xl_ldc2 (a := a) (b := b) (l := l) IH hme hok hnx hd (xwg_of hq) h
        case aconst_null =>
          obtain ⟨rfl, rfl⟩ := of_decide_eq_true (show decide (op = 2 ∧ len = 1) = true from hI)
          exact xl_null (a := a) (b := b) (l := l) IH hme hok hnx hd h
        case iload i =>
          obtain ⟨hq0, hq⟩ := Bool.and_eq_true_iff.mp (show (decide (op = 3 ∧ len = 2) && (decide (i = a ∧ b = 0))) = true from hI)
          obtain ⟨rfl, rfl⟩ := of_decide_eq_true hq0
          exact xl_iload (a := a) (b := b) (l := l) IH hme hok hnx hd (of_decide_eq_true hq).1 (of_decide_eq_true hq).2 h
        case iload_n i =>
          obtain ⟨hq0, hq⟩ := Bool.and_eq_true_iff.mp (show (decide (op = 3 ∧ len = 1) && (decide ((i : Nat) = a ∧ b = 0))) = true from hI)
          obtain ⟨rfl, rfl⟩ := of_decide_eq_true hq0
          exact xl_iload_n (a := a) (b := b) (l := l) IH hme hok hnx hd (of_decide_eq_true hq).1 (of_decide_eq_true hq).2 h
        case lload i =>
          obtain ⟨hq0, hq⟩ := Bool.and_eq_true_iff.mp (show (decide (op = 3 ∧ len = 2) && (decide (i = a ∧ b = 2))) = true from hI)
          obtain ⟨rfl, rfl⟩ := of_decide_eq_true hq0
          exact xl_lload (a := a) (b := b) (l := l) IH hme hok hnx hd (of_decide_eq_true hq).1 (of_decide_eq_true hq).2 h
        case lload_n i =>
          obtain ⟨hq0, hq⟩ := Bool.and_eq_true_iff.mp (show (decide (op = 3 ∧ len = 1) && (decide ((i : Nat) = a ∧ b = 2))) = true from hI)
          obtain ⟨rfl, rfl⟩ := of_decide_eq_true hq0
          exact xl_lload_n (a := a) (b := b) (l := l) IH hme hok hnx hd (of_decide_eq_true hq).1 (of_decide_eq_true hq).2 h
        case aload i =>
          obtain ⟨hq0, hq⟩ := Bool.and_eq_true_iff.mp (show (decide (op = 3 ∧ len = 2) && (decide (i = a ∧ b = 1))) = true from hI)
          obtain ⟨rfl, rfl⟩ := of_decide_eq_true hq0
          exact xl_aload (a := a) (b := b) (l := l) IH hme hok hnx hd (of_decide_eq_true hq).1 (of_decide_eq_true hq).2 h
        case aload_n i =>
          obtain ⟨hq0, hq⟩ := Bool.and_eq_true_iff.mp (show (decide (op = 3 ∧ len = 1) && (decide ((i : Nat) = a ∧ b = 1))) = true from hI)
          obtain ⟨rfl, rfl⟩ := of_decide_eq_true hq0
          exact xl_aload_n (a := a) (b := b) (l := l) IH hme hok hnx hd (of_decide_eq_true hq).1 (of_decide_eq_true hq).2 h
        case istore i =>
          obtain ⟨hq0, hq⟩ := Bool.and_eq_true_iff.mp (show (decide (op = 4 ∧ len = 2) && (decide (i = a ∧ b = 0 ∧ a < me.2.2.1))) = true from hI)
          obtain ⟨rfl, rfl⟩ := of_decide_eq_true hq0
          exact xl_istore (a := a) (b := b) (l := l) IH hme hok hnx ((of_decide_eq_true hq).1 ▸ hd) (of_decide_eq_true hq).2.1 (of_decide_eq_true hq).2.2 h
        case istore_n i =>
          obtain ⟨hq0, hq⟩ := Bool.and_eq_true_iff.mp (show (decide (op = 4 ∧ len = 1) && (decide ((i : Nat) = a ∧ b = 0 ∧ a < me.2.2.1))) = true from hI)
          obtain ⟨rfl, rfl⟩ := of_decide_eq_true hq0
          exact xl_istore_n (a := a) (b := b) (l := l) IH hme hok hnx hd (of_decide_eq_true hq).1 (of_decide_eq_true hq).2.1 (of_decide_eq_true hq).2.2 h
        case lstore i =>
          obtain ⟨hq0, hq⟩ := Bool.and_eq_true_iff.mp (show (decide (op = 4 ∧ len = 2) && (decide (i = a ∧ b = 2 ∧ a + 1 < me.2.2.1))) = true from hI)
          obtain ⟨rfl, rfl⟩ := of_decide_eq_true hq0
          exact xl_lstore (a := a) (b := b) (l := l) IH hme hok hnx ((of_decide_eq_true hq).1 ▸ hd) (of_decide_eq_true hq).2.1 (of_decide_eq_true hq).2.2 h
        case lstore_n i =>
          obtain ⟨hq0, hq⟩ := Bool.and_eq_true_iff.mp (show (decide (op = 4 ∧ len = 1) && (decide ((i : Nat) = a ∧ b = 2 ∧ a + 1 < me.2.2.1))) = true from hI)
          obtain ⟨rfl, rfl⟩ := of_decide_eq_true hq0
          exact xl_lstore_n (a := a) (b := b) (l := l) IH hme hok hnx hd (of_decide_eq_true hq).1 (of_decide_eq_true hq).2.1 (of_decide_eq_true hq).2.2 h
        case astore i =>
          obtain ⟨hq0, hq⟩ := Bool.and_eq_true_iff.mp (show (decide (op = 4 ∧ len = 2) && (decide (i = a ∧ b = 1 ∧ a < me.2.2.1))) = true from hI)
          obtain ⟨rfl, rfl⟩ := of_decide_eq_true hq0
          exact xl_astore (a := a) (b := b) (l := l) IH hme hok hnx ((of_decide_eq_true hq).1 ▸ hd) (of_decide_eq_true hq).2.1 (of_decide_eq_true hq).2.2 h
        case astore_n i =>
          obtain ⟨hq0, hq⟩ := Bool.and_eq_true_iff.mp (show (decide (op = 4 ∧ len = 1) && (decide ((i : Nat) = a ∧ b = 1 ∧ a < me.2.2.1))) = true from hI)
          obtain ⟨rfl, rfl⟩ := of_decide_eq_true hq0
          exact xl_astore_n (a := a) (b := b) (l := l) IH hme hok hnx hd (of_decide_eq_true hq).1 (of_decide_eq_true hq).2.1 (of_decide_eq_true hq).2.2 h
        case iinc i n =>
          obtain ⟨hq0, hq⟩ := Bool.and_eq_true_iff.mp (show (decide (op = 5 ∧ len = 3) && (decide (i = a ∧ Int32.ofInt n = nI b ∧ a < me.2.2.1))) = true from hI)
          obtain ⟨rfl, rfl⟩ := of_decide_eq_true hq0
          exact xl_iinc (a := a) (b := b) (l := l) IH hme hok hnx ((of_decide_eq_true hq).1 ▸ hd) (of_decide_eq_true hq).2.1 (of_decide_eq_true hq).2.2 h
        case iadd =>
          obtain ⟨hq0, hq⟩ := Bool.and_eq_true_iff.mp (show (decide (op = 6 ∧ len = 1) && (decide (a = 0))) = true from hI)
          obtain ⟨rfl, rfl⟩ := of_decide_eq_true hq0
          exact xl_iadd (a := a) (b := b) (l := l) IH hme hok hnx hd (of_decide_eq_true hq) h
        case isub =>
          obtain ⟨hq0, hq⟩ := Bool.and_eq_true_iff.mp (show (decide (op = 6 ∧ len = 1) && (decide (a = 1))) = true from hI)
          obtain ⟨rfl, rfl⟩ := of_decide_eq_true hq0
          exact xl_isub (a := a) (b := b) (l := l) IH hme hok hnx hd (of_decide_eq_true hq) h
        case imul =>
          obtain ⟨hq0, hq⟩ := Bool.and_eq_true_iff.mp (show (decide (op = 6 ∧ len = 1) && (decide (a = 2))) = true from hI)
          obtain ⟨rfl, rfl⟩ := of_decide_eq_true hq0
          exact xl_imul (a := a) (b := b) (l := l) IH hme hok hnx hd (of_decide_eq_true hq) h
        case iand =>
          obtain ⟨hq0, hq⟩ := Bool.and_eq_true_iff.mp (show (decide (op = 6 ∧ len = 1) && (decide (a = 3))) = true from hI)
          obtain ⟨rfl, rfl⟩ := of_decide_eq_true hq0
          exact xl_iand (a := a) (b := b) (l := l) IH hme hok hnx hd (of_decide_eq_true hq) h
        case ior =>
          obtain ⟨hq0, hq⟩ := Bool.and_eq_true_iff.mp (show (decide (op = 6 ∧ len = 1) && (decide (a = 4))) = true from hI)
          obtain ⟨rfl, rfl⟩ := of_decide_eq_true hq0
          exact xl_ior (a := a) (b := b) (l := l) IH hme hok hnx hd (of_decide_eq_true hq) h
        case ixor =>
          obtain ⟨hq0, hq⟩ := Bool.and_eq_true_iff.mp (show (decide (op = 6 ∧ len = 1) && (decide (a = 5))) = true from hI)
          obtain ⟨rfl, rfl⟩ := of_decide_eq_true hq0
          exact xl_ixor (a := a) (b := b) (l := l) IH hme hok hnx hd (of_decide_eq_true hq) h
        case ishl =>
          obtain ⟨hq0, hq⟩ := Bool.and_eq_true_iff.mp (show (decide (op = 6 ∧ len = 1) && (decide (a = 6))) = true from hI)
          obtain ⟨rfl, rfl⟩ := of_decide_eq_true hq0
          exact xl_ishl (a := a) (b := b) (l := l) IH hme hok hnx hd (of_decide_eq_true hq) h
        case ishr =>
          obtain ⟨hq0, hq⟩ := Bool.and_eq_true_iff.mp (show (decide (op = 6 ∧ len = 1) && (decide (a = 7))) = true from hI)
          obtain ⟨rfl, rfl⟩ := of_decide_eq_true hq0
          exact xl_ishr (a := a) (b := b) (l := l) IH hme hok hnx hd (of_decide_eq_true hq) h
        case iushr =>
          obtain ⟨hq0, hq⟩ := Bool.and_eq_true_iff.mp (show (decide (op = 6 ∧ len = 1) && (decide (a = 8))) = true from hI)
          obtain ⟨rfl, rfl⟩ := of_decide_eq_true hq0
          exact xl_iushr (a := a) (b := b) (l := l) IH hme hok hnx hd (of_decide_eq_true hq) h
        case idiv =>
          obtain ⟨hq0, hq⟩ := Bool.and_eq_true_iff.mp (show (decide (op = 7 ∧ len = 1) && (decide (a = 0))) = true from hI)
          obtain ⟨rfl, rfl⟩ := of_decide_eq_true hq0
          exact xl_idiv (a := a) (b := b) (l := l) IH hme hok hnx hd (of_decide_eq_true hq) h
        case irem =>
          obtain ⟨hq0, hq⟩ := Bool.and_eq_true_iff.mp (show (decide (op = 7 ∧ len = 1) && (decide (a = 1))) = true from hI)
          obtain ⟨rfl, rfl⟩ := of_decide_eq_true hq0
          exact xl_irem (a := a) (b := b) (l := l) IH hme hok hnx hd (of_decide_eq_true hq) h
        case ineg =>
          obtain ⟨hq0, hq⟩ := Bool.and_eq_true_iff.mp (show (decide (op = 8 ∧ len = 1) && (decide (a = 0))) = true from hI)
          obtain ⟨rfl, rfl⟩ := of_decide_eq_true hq0
          exact xl_ineg (a := a) (b := b) (l := l) IH hme hok hnx hd (of_decide_eq_true hq) h
        case i2b =>
          obtain ⟨hq0, hq⟩ := Bool.and_eq_true_iff.mp (show (decide (op = 8 ∧ len = 1) && (decide (a = 1))) = true from hI)
          obtain ⟨rfl, rfl⟩ := of_decide_eq_true hq0
          exact xl_i2b (a := a) (b := b) (l := l) IH hme hok hnx hd (of_decide_eq_true hq) h
        case i2s =>
          obtain ⟨hq0, hq⟩ := Bool.and_eq_true_iff.mp (show (decide (op = 8 ∧ len = 1) && (decide (a = 2))) = true from hI)
          obtain ⟨rfl, rfl⟩ := of_decide_eq_true hq0
          exact xl_i2s (a := a) (b := b) (l := l) IH hme hok hnx hd (of_decide_eq_true hq) h
        case i2c =>
          obtain ⟨hq0, hq⟩ := Bool.and_eq_true_iff.mp (show (decide (op = 8 ∧ len = 1) && (decide (a = 3))) = true from hI)
          obtain ⟨rfl, rfl⟩ := of_decide_eq_true hq0
          exact xl_i2c (a := a) (b := b) (l := l) IH hme hok hnx hd (of_decide_eq_true hq) h
        case i2l =>
          obtain ⟨rfl, rfl⟩ := of_decide_eq_true (show decide (op = 9 ∧ len = 1) = true from hI)
          exact xl_i2l (a := a) (b := b) (l := l) IH hme hok hnx hd h
        case l2i =>
          obtain ⟨rfl, rfl⟩ := of_decide_eq_true (show decide (op = 10 ∧ len = 1) = true from hI)
          exact xl_l2i (a := a) (b := b) (l := l) IH hme hok hnx hd h
        case ladd =>
          obtain ⟨hq0, hq⟩ := Bool.and_eq_true_iff.mp (show (decide (op = 11 ∧ len = 1) && (decide (a = 0))) = true from hI)
          obtain ⟨rfl, rfl⟩ := of_decide_eq_true hq0
          exact xl_ladd (a := a) (b := b) (l := l) IH hme hok hnx hd (of_decide_eq_true hq) h
        case lsub =>
          obtain ⟨hq0, hq⟩ := Bool.and_eq_true_iff.mp (show (decide (op = 11 ∧ len = 1) && (decide (a = 1))) = true from hI)
          obtain ⟨rfl, rfl⟩ := of_decide_eq_true hq0
          exact xl_lsub (a := a) (b := b) (l := l) IH hme hok hnx hd (of_decide_eq_true hq) h
        case lmul =>
          obtain ⟨hq0, hq⟩ := Bool.and_eq_true_iff.mp (show (decide (op = 11 ∧ len = 1) && (decide (a = 2))) = true from hI)
          obtain ⟨rfl, rfl⟩ := of_decide_eq_true hq0
          exact xl_lmul (a := a) (b := b) (l := l) IH hme hok hnx hd (of_decide_eq_true hq) h
        case land =>
          obtain ⟨hq0, hq⟩ := Bool.and_eq_true_iff.mp (show (decide (op = 11 ∧ len = 1) && (decide (a = 3))) = true from hI)
          obtain ⟨rfl, rfl⟩ := of_decide_eq_true hq0
          exact xl_land (a := a) (b := b) (l := l) IH hme hok hnx hd (of_decide_eq_true hq) h
        case lor =>
          obtain ⟨hq0, hq⟩ := Bool.and_eq_true_iff.mp (show (decide (op = 11 ∧ len = 1) && (decide (a = 4))) = true from hI)
          obtain ⟨rfl, rfl⟩ := of_decide_eq_true hq0
          exact xl_lor (a := a) (b := b) (l := l) IH hme hok hnx hd (of_decide_eq_true hq) h
        case lxor =>
          obtain ⟨hq0, hq⟩ := Bool.and_eq_true_iff.mp (show (decide (op = 11 ∧ len = 1) && (decide (a = 5))) = true from hI)
          obtain ⟨rfl, rfl⟩ := of_decide_eq_true hq0
          exact xl_lxor (a := a) (b := b) (l := l) IH hme hok hnx hd (of_decide_eq_true hq) h
        case ldiv =>
          obtain ⟨hq0, hq⟩ := Bool.and_eq_true_iff.mp (show (decide (op = 12 ∧ len = 1) && (decide (a = 0))) = true from hI)
          obtain ⟨rfl, rfl⟩ := of_decide_eq_true hq0
          exact xl_ldiv (a := a) (b := b) (l := l) IH hme hok hnx hd (of_decide_eq_true hq) h
        case lrem =>
          obtain ⟨hq0, hq⟩ := Bool.and_eq_true_iff.mp (show (decide (op = 12 ∧ len = 1) && (decide (a = 1))) = true from hI)
          obtain ⟨rfl, rfl⟩ := of_decide_eq_true hq0
          exact xl_lrem (a := a) (b := b) (l := l) IH hme hok hnx hd (of_decide_eq_true hq) h
        case lshl =>
          obtain ⟨hq0, hq⟩ := Bool.and_eq_true_iff.mp (show (decide (op = 13 ∧ len = 1) && (decide (a = 0))) = true from hI)
          obtain ⟨rfl, rfl⟩ := of_decide_eq_true hq0
          exact xl_lshl (a := a) (b := b) (l := l) IH hme hok hnx hd (of_decide_eq_true hq) h
        case lshr =>
          obtain ⟨hq0, hq⟩ := Bool.and_eq_true_iff.mp (show (decide (op = 13 ∧ len = 1) && (decide (a = 1))) = true from hI)
          obtain ⟨rfl, rfl⟩ := of_decide_eq_true hq0
          exact xl_lshr (a := a) (b := b) (l := l) IH hme hok hnx hd (of_decide_eq_true hq) h
        case lushr =>
          obtain ⟨hq0, hq⟩ := Bool.and_eq_true_iff.mp (show (decide (op = 13 ∧ len = 1) && (decide (a = 2))) = true from hI)
          obtain ⟨rfl, rfl⟩ := of_decide_eq_true hq0
          exact xl_lushr (a := a) (b := b) (l := l) IH hme hok hnx hd (of_decide_eq_true hq) h
        case lcmp =>
          obtain ⟨rfl, rfl⟩ := of_decide_eq_true (show decide (op = 14 ∧ len = 1) = true from hI)
          exact xl_lcmp (a := a) (b := b) (l := l) IH hme hok hnx hd h
        case dup =>
          obtain ⟨rfl, rfl⟩ := of_decide_eq_true (show decide (op = 15 ∧ len = 1) = true from hI)
          exact xl_dup (a := a) (b := b) (l := l) IH hme hok hnx hd h
        case pop =>
          obtain ⟨rfl, rfl⟩ := of_decide_eq_true (show decide (op = 16 ∧ len = 1) = true from hI)
          exact xl_pop (a := a) (b := b) (l := l) IH hme hok hnx hd h
        case dup_x1 =>
          obtain ⟨rfl, rfl⟩ := of_decide_eq_true (show decide (op = 17 ∧ len = 1) = true from hI)
          exact xl_dupx1 (a := a) (b := b) (l := l) IH hme hok hnx hd h
        case dup_x2 =>
          obtain ⟨rfl, rfl⟩ := of_decide_eq_true (show decide (op = 18 ∧ len = 1) = true from hI)
          exact xl_dupx2 (a := a) (b := b) (l := l) IH hme hok hnx hd h
        case dup2 =>
          obtain ⟨rfl, rfl⟩ := of_decide_eq_true (show decide (op = 19 ∧ len = 1) = true from hI)
          exact xl_dup2 (a := a) (b := b) (l := l) IH hme hok hnx hd h
        case ifCond cnd o =>
          cases cnd
          case eq =>
            obtain ⟨hq0, hq⟩ := Bool.and_eq_true_iff.mp (show (decide (op = 20 ∧ len = 3) && (decide ((pc : Int) + o = (b : Int) ∧ a = 0))) = true from hI)
            obtain ⟨rfl, rfl⟩ := of_decide_eq_true hq0
            exact xl_if_eq (a := a) (b := b) (l := l) hj IH hme hok hnx hd (of_decide_eq_true hq).1 (of_decide_eq_true hq).2 h
          case ne =>
            obtain ⟨hq0, hq⟩ := Bool.and_eq_true_iff.mp (show (decide (op = 20 ∧ len = 3) && (decide ((pc : Int) + o = (b : Int) ∧ a = 1))) = true from hI)
            obtain ⟨rfl, rfl⟩ := of_decide_eq_true hq0
            exact xl_if_ne (a := a) (b := b) (l := l) hj IH hme hok hnx hd (of_decide_eq_true hq).1 (of_decide_eq_true hq).2 h
          case lt =>
            obtain ⟨hq0, hq⟩ := Bool.and_eq_true_iff.mp (show (decide (op = 20 ∧ len = 3) && (decide ((pc : Int) + o = (b : Int) ∧ a = 2))) = true from hI)
            obtain ⟨rfl, rfl⟩ := of_decide_eq_true hq0
            exact xl_if_lt (a := a) (b := b) (l := l) hj IH hme hok hnx hd (of_decide_eq_true hq).1 (of_decide_eq_true hq).2 h
          case ge =>
            obtain ⟨hq0, hq⟩ := Bool.and_eq_true_iff.mp (show (decide (op = 20 ∧ len = 3) && (decide ((pc : Int) + o = (b : Int) ∧ a = 3))) = true from hI)
            obtain ⟨rfl, rfl⟩ := of_decide_eq_true hq0
            exact xl_if_ge (a := a) (b := b) (l := l) hj IH hme hok hnx hd (of_decide_eq_true hq).1 (of_decide_eq_true hq).2 h
          case gt =>
            obtain ⟨hq0, hq⟩ := Bool.and_eq_true_iff.mp (show (decide (op = 20 ∧ len = 3) && (decide ((pc : Int) + o = (b : Int) ∧ a = 4))) = true from hI)
            obtain ⟨rfl, rfl⟩ := of_decide_eq_true hq0
            exact xl_if_gt (a := a) (b := b) (l := l) hj IH hme hok hnx hd (of_decide_eq_true hq).1 (of_decide_eq_true hq).2 h
          case le =>
            obtain ⟨hq0, hq⟩ := Bool.and_eq_true_iff.mp (show (decide (op = 20 ∧ len = 3) && (decide ((pc : Int) + o = (b : Int) ∧ a = 5))) = true from hI)
            obtain ⟨rfl, rfl⟩ := of_decide_eq_true hq0
            exact xl_if_le (a := a) (b := b) (l := l) hj IH hme hok hnx hd (of_decide_eq_true hq).1 (of_decide_eq_true hq).2 h
        case if_icmp cnd o =>
          cases cnd
          case eq =>
            obtain ⟨hq0, hq⟩ := Bool.and_eq_true_iff.mp (show (decide (op = 21 ∧ len = 3) && (decide ((pc : Int) + o = (b : Int) ∧ a = 0))) = true from hI)
            obtain ⟨rfl, rfl⟩ := of_decide_eq_true hq0
            exact xl_icmp_eq (a := a) (b := b) (l := l) hj IH hme hok hnx hd (of_decide_eq_true hq).1 (of_decide_eq_true hq).2 h
          case ne =>
            obtain ⟨hq0, hq⟩ := Bool.and_eq_true_iff.mp (show (decide (op = 21 ∧ len = 3) && (decide ((pc : Int) + o = (b : Int) ∧ a = 1))) = true from hI)
            obtain ⟨rfl, rfl⟩ := of_decide_eq_true hq0
            exact xl_icmp_ne (a := a) (b := b) (l := l) hj IH hme hok hnx hd (of_decide_eq_true hq).1 (of_decide_eq_true hq).2 h
          case lt =>
            obtain ⟨hq0, hq⟩ := Bool.and_eq_true_iff.mp (show (decide (op = 21 ∧ len = 3) && (decide ((pc : Int) + o = (b : Int) ∧ a = 2))) = true from hI)
            obtain ⟨rfl, rfl⟩ := of_decide_eq_true hq0
            exact xl_icmp_lt (a := a) (b := b) (l := l) hj IH hme hok hnx hd (of_decide_eq_true hq).1 (of_decide_eq_true hq).2 h
          case ge =>
            obtain ⟨hq0, hq⟩ := Bool.and_eq_true_iff.mp (show (decide (op = 21 ∧ len = 3) && (decide ((pc : Int) + o = (b : Int) ∧ a = 3))) = true from hI)
            obtain ⟨rfl, rfl⟩ := of_decide_eq_true hq0
            exact xl_icmp_ge (a := a) (b := b) (l := l) hj IH hme hok hnx hd (of_decide_eq_true hq).1 (of_decide_eq_true hq).2 h
          case gt =>
            obtain ⟨hq0, hq⟩ := Bool.and_eq_true_iff.mp (show (decide (op = 21 ∧ len = 3) && (decide ((pc : Int) + o = (b : Int) ∧ a = 4))) = true from hI)
            obtain ⟨rfl, rfl⟩ := of_decide_eq_true hq0
            exact xl_icmp_gt (a := a) (b := b) (l := l) hj IH hme hok hnx hd (of_decide_eq_true hq).1 (of_decide_eq_true hq).2 h
          case le =>
            obtain ⟨hq0, hq⟩ := Bool.and_eq_true_iff.mp (show (decide (op = 21 ∧ len = 3) && (decide ((pc : Int) + o = (b : Int) ∧ a = 5))) = true from hI)
            obtain ⟨rfl, rfl⟩ := of_decide_eq_true hq0
            exact xl_icmp_le (a := a) (b := b) (l := l) hj IH hme hok hnx hd (of_decide_eq_true hq).1 (of_decide_eq_true hq).2 h
        case goto o =>
          obtain ⟨hq0, hq⟩ := Bool.and_eq_true_iff.mp (show (decide (op = 22 ∧ len = 3) && (decide ((pc : Int) + o = (b : Int)))) = true from hI)
          obtain ⟨rfl, rfl⟩ := of_decide_eq_true hq0
          exact xl_goto (a := a) (b := b) (l := l) (cs := cs) hj IH hme hd (of_decide_eq_true hq) h
        case ifnull o =>
          obtain ⟨hq0, hq⟩ := Bool.and_eq_true_iff.mp (show (decide (op = 23 ∧ len = 3) && (decide ((pc : Int) + o = (b : Int) ∧ a = 0))) = true from hI)
          obtain ⟨rfl, rfl⟩ := of_decide_eq_true hq0
          exact xl_ifnull (a := a) (b := b) (l := l) hj IH hme hok hnx hd (of_decide_eq_true hq).1 (of_decide_eq_true hq).2 h
        case ifnonnull o =>
          obtain ⟨hq0, hq⟩ := Bool.and_eq_true_iff.mp (show (decide (op = 23 ∧ len = 3) && (decide ((pc : Int) + o = (b : Int) ∧ a = 1))) = true from hI)
          obtain ⟨rfl, rfl⟩ := of_decide_eq_true hq0
          exact xl_ifnonnull (a := a) (b := b) (l := l) hj IH hme hok hnx hd (of_decide_eq_true hq).1 (of_decide_eq_true hq).2 h
        case tableswitch dflt lo hi offs =>
          obtain ⟨hq0, hq⟩ := Bool.and_eq_true_iff.mp (show (decide (op = 24) && (xokTab pc a b l dflt lo hi offs)) = true from hI)
          obtain rfl := of_decide_eq_true hq0
          exact xl_table (a := a) (b := b) (l := l) (cs := cs) hj IH hme hd (xokTab_of hq) h
        case getfield i =>
          obtain ⟨hq0, hq⟩ := Bool.and_eq_true_iff.mp (show (decide (op = 25 ∧ len = 3) && (decide (a < 100) && xokGet Tc cl me i a b l)) = true from hI)
          obtain ⟨rfl, rfl⟩ := of_decide_eq_true hq0
          exact xs_get (a := a) (b := b) (l := l) hG IH hme hok hnx hd (of_decide_eq_true (Bool.and_eq_true_iff.mp hq).1) (Bool.and_eq_true_iff.mp hq).2 h
        case putfield i =>
          obtain ⟨hq0, hq⟩ := Bool.and_eq_true_iff.mp (show (decide (op = 26 ∧ len = 3) && (decide (a < 100) && xokPut Tc cl me i a b l)) = true from hI)
          obtain ⟨rfl, rfl⟩ := of_decide_eq_true hq0
          exact xs_put (a := a) (b := b) (l := l) hG IH hme hok hnx hd (of_decide_eq_true (Bool.and_eq_true_iff.mp hq).1) (Bool.and_eq_true_iff.mp hq).2 h
        case new i =>
          obtain ⟨hq0, hq⟩ := Bool.and_eq_true_iff.mp (show (decide (op = 27 ∧ len = 3) && (decide (a < 100) && xokNew Tc cl me i a b l)) = true from hI)
          obtain ⟨rfl, rfl⟩ := of_decide_eq_true hq0
          exact xs_new (a := a) (b := b) (l := l) hG IH hme hok hnx hd (of_decide_eq_true (Bool.and_eq_true_iff.mp hq).1) (Bool.and_eq_true_iff.mp hq).2 h
        case newarray t =>
          obtain ⟨hq0, hq⟩ := Bool.and_eq_true_iff.mp (show (decide (op = 28 ∧ len = 2) && (decide (100 ≤ a ∧ tys[a - 100]? = some (Jvm.Op.newarray.typeOf t) ∧ b = xkt (Jvm.Op.newarray.typeOf t) ∧ b ≠ 9 ∧ componentBytes (Jvm.Op.newarray.typeOf t) ≤ 8) && xwg Tc (l.getD 0 0) (.arrayClass (Jvm.Op.newarray.typeOf t)))) = true from hI)
          obtain ⟨rfl, rfl⟩ := of_decide_eq_true hq0
          obtain ⟨r1, r2⟩ := Bool.and_eq_true_iff.mp hq
          obtain ⟨s1, s2, s3, s4, s5⟩ := of_decide_eq_true r1
          exact xl_newa (a := a) (b := b) (l := l) IH hme hok hnx hd s1 s2 s3 s4 s5 (xwg_of r2) h
        case multianewarray i d =>
          obtain ⟨hq0, hq⟩ := Bool.and_eq_true_iff.mp (show (decide (op = 29 ∧ len = 4) && (decide (d = 2 ∧ tys[0]? = some .int ∧ tys[2]? = some (.array .int)) && xwg Tc (l.getD 0 0) (.classLink me.1.cls i ("[" ++ (FieldType.array .int).toString)) && xwg Tc (l.getD 1 0) (.arrayClass .int))) = true from hI)
          obtain ⟨rfl, rfl⟩ := of_decide_eq_true hq0
          obtain ⟨r12, r3⟩ := Bool.and_eq_true_iff.mp hq
          obtain ⟨r1, r2⟩ := Bool.and_eq_true_iff.mp r12
          obtain ⟨rfl, s2, s3⟩ := of_decide_eq_true r1
          exact xl_mna (a := a) (b := b) (l := l) IH hme hok hnx hd s2 s3 (xwg_of r2) (xwg_of r3) h
        case arraylength =>
          obtain ⟨hq0, hq⟩ := Bool.and_eq_true_iff.mp (show (decide (op = 30 ∧ len = 1) && (decide (b = 100 + tys.length))) = true from hI)
          obtain ⟨rfl, rfl⟩ := of_decide_eq_true hq0
          exact xl_alen (a := a) (b := b) (l := l) IH hme hok hnx hd (of_decide_eq_true hq) h
        case iaload =>
          obtain ⟨hq0, hq⟩ := Bool.and_eq_true_iff.mp (show (decide (op = 31 ∧ len = 1) && (decide (100 ≤ a ∧ tys[a - 100]? = some .int))) = true from hI)
          obtain ⟨rfl, rfl⟩ := of_decide_eq_true hq0
          exact xl_iald (a := a) (b := b) (l := l) IH hme hok hnx hd (of_decide_eq_true hq).1 (of_decide_eq_true hq).2 h
        case laload =>
          obtain ⟨hq0, hq⟩ := Bool.and_eq_true_iff.mp (show (decide (op = 31 ∧ len = 1) && (decide (100 ≤ a ∧ tys[a - 100]? = some .long))) = true from hI)
          obtain ⟨rfl, rfl⟩ := of_decide_eq_true hq0
          exact xl_lald (a := a) (b := b) (l := l) IH hme hok hnx hd (of_decide_eq_true hq).1 (of_decide_eq_true hq).2 h
        case aaload =>
          obtain ⟨hq0, hq⟩ := Bool.and_eq_true_iff.mp (show (decide (op = 31 ∧ len = 1) && (decide (100 ≤ a ∧ tys[a - 100]? = some (.array .int)))) = true from hI)
          obtain ⟨rfl, rfl⟩ := of_decide_eq_true hq0
          exact xl_aald (a := a) (b := b) (l := l) IH hme hok hnx hd (of_decide_eq_true hq).1 (of_decide_eq_true hq).2 rfl h
        case iastore =>
          obtain ⟨hq0, hq⟩ := Bool.and_eq_true_iff.mp (show (decide (op = 32 ∧ len = 1) && (decide (100 ≤ a ∧ tys[a - 100]? = some .int ∧ b = 0))) = true from hI)
          obtain ⟨rfl, rfl⟩ := of_decide_eq_true hq0
          exact xl_iast (a := a) (b := b) (l := l) IH hme hok hnx hd (of_decide_eq_true hq).1 (of_decide_eq_true hq).2.1 (of_decide_eq_true hq).2.2 h
        case lastore =>
          obtain ⟨hq0, hq⟩ := Bool.and_eq_true_iff.mp (show (decide (op = 32 ∧ len = 1) && (decide (100 ≤ a ∧ tys[a - 100]? = some .long ∧ b = 2))) = true from hI)
          obtain ⟨rfl, rfl⟩ := of_decide_eq_true hq0
          exact xl_last (a := a) (b := b) (l := l) IH hme hok hnx hd (of_decide_eq_true hq).1 (of_decide_eq_true hq).2.1 (of_decide_eq_true hq).2.2 h
        case ireturn =>
          obtain ⟨hq0, hq⟩ := Bool.and_eq_true_iff.mp (show (decide (op = 35 ∧ len = 1) && (decide ((me.2.2.2.1 = some .int ∧ a = 0) ∨ (me.2.2.2.1 = some .boolean ∧ a = 3)))) = true from hI)
          obtain ⟨rfl, rfl⟩ := of_decide_eq_true hq0
          rcases of_decide_eq_true hq with ⟨s1, s2⟩ | ⟨s1, s2⟩
          · exact xl_iret (a := a) (b := b) (l := l) (ih := ih) (cs := cs) hd s1 s2 (Or.inl rfl) h
          · exact xl_iret (a := a) (b := b) (l := l) (ih := ih) (cs := cs) hd s1 s2 (Or.inr rfl) h
        case lreturn =>
          obtain ⟨hq0, hq⟩ := Bool.and_eq_true_iff.mp (show (decide (op = 35 ∧ len = 1) && (decide (me.2.2.2.1 = some .long ∧ a = 2))) = true from hI)
          obtain ⟨rfl, rfl⟩ := of_decide_eq_true hq0
          exact xl_lret (a := a) (b := b) (l := l) (ih := ih) (cs := cs) hd (of_decide_eq_true hq).1 (of_decide_eq_true hq).2 h
        case return_ =>
          obtain ⟨hq0, hq⟩ := Bool.and_eq_true_iff.mp (show (decide (op = 36 ∧ len = 1) && (decide (me.2.2.2.1 = none))) = true from hI)
          obtain ⟨rfl, rfl⟩ := of_decide_eq_true hq0
          exact xl_ret (a := a) (b := b) (l := l) (ih := ih) (cs := cs) hd (of_decide_eq_true hq) h
        case invokestatic i =>
          obtain ⟨hq0, hq⟩ := Bool.and_eq_true_iff.mp (show (decide (len = 3) && ((decide (op = 33) && xokCall Tc Ms cl me (.invokestatic i) i 0 a b l) || (decide (op = 37 ∧ 1 ≤ (xR me).frames) && ((decide (a = 0) && xwg Tc (l.getD 0 0) (.methodLink me.1.cls i Lib.Math.min.name) && xwg Tc (l.getD 1 0) (.static Lib.Math.min.name) && xwg Tc (l.getD 2 0) (.code Lib.Math.min.name Lib.Math.min.code 2 (some .int))) || (decide (a = 1) && xwg Tc (l.getD 0 0) (.methodLink me.1.cls i Lib.Math.max.name) && xwg Tc (l.getD 1 0) (.static Lib.Math.max.name) && xwg Tc (l.getD 2 0) (.code Lib.Math.max.name Lib.Math.max.code 2 (some .int)))) && xwg Tc (l.getD 3 0) (.initialized "java/lang/Math")) || (decide (op = 38 ∧ 1 ≤ (xR me).frames ∧ tys[0]? = some .int) && xwg Tc (l.getD 0 0) (.methodLink me.1.cls i arraycopyName) && xwg Tc (l.getD 1 0) (.native arraycopyName) && xwg Tc (l.getD 2 0) (.static arraycopyName) && xwg Tc (l.getD 3 0) (.initialized "java/lang/System")))) = true from hI)
          obtain rfl := of_decide_eq_true hq0
          rcases Bool.or_eq_true_iff.mp hq with hq | hq
          · rcases Bool.or_eq_true_iff.mp hq with hq | hq
            · obtain ⟨r1, r2⟩ := Bool.and_eq_true_iff.mp hq
              obtain rfl := of_decide_eq_true r1
              exact xs_call (a := a) (b := b) (l := l) (kind := 0) (by decide) rfl hG IH hme hok hnx hd r2 h
            · simp only [Bool.and_eq_true, Bool.or_eq_true] at hq
              obtain ⟨⟨r1, r2⟩, r3⟩ := hq
              obtain ⟨rfl, s2⟩ := of_decide_eq_true r1
              refine xl_mm (a := a) (b := b) (l := l) IH hme hok hnx hd ?_ (xwg_of r3) s2 h
              rcases r2 with ⟨⟨⟨t1, t2⟩, t3⟩, t4⟩ | ⟨⟨⟨t1, t2⟩, t3⟩, t4⟩
              · exact Or.inl ⟨of_decide_eq_true t1, xwg_of t2, xwg_of t3, xwg_of t4⟩
              · exact Or.inr ⟨of_decide_eq_true t1, xwg_of t2, xwg_of t3, xwg_of t4⟩
          · simp only [Bool.and_eq_true] at hq
            obtain ⟨⟨⟨⟨r1, r2⟩, r3⟩, r4⟩, r5⟩ := hq
            obtain ⟨rfl, s2, s3⟩ := of_decide_eq_true r1
            exact xl_copy (a := a) (b := b) (l := l) IH hme hok hnx hd s3 (xwg_of r2) (xwg_of r3) (xwg_of r4) (xwg_of r5) s2 h
        case invokevirtual i =>
          obtain ⟨hq0, hq⟩ := Bool.and_eq_true_iff.mp (show (decide (len = 3) && (decide (op = 33) && xokCall Tc Ms cl me (.invokevirtual i) i 1 a b l)) = true from hI)
          obtain rfl := of_decide_eq_true hq0
          obtain ⟨r1, r2⟩ := Bool.and_eq_true_iff.mp hq
          obtain rfl := of_decide_eq_true r1
          exact xs_call (a := a) (b := b) (l := l) (kind := 1) (by decide) rfl hG IH hme hok hnx hd r2 h
        case invokespecial i =>
          obtain ⟨hq0, hq⟩ := Bool.and_eq_true_iff.mp (show (decide (len = 3) && ((decide (op = 33) && xokCall Tc Ms cl me (.invokespecial i) i 2 a b l) || (decide (op = 34 ∧ 1 ≤ (xR me).frames) && xwg Tc (l.getD 0 0) (.methodLink me.1.cls i Lib.objectInit) && xwg Tc (l.getD 1 0) (.instanceMethod Lib.objectInit) && xwg Tc (l.getD 2 0) (.code Lib.objectInit ⟨#[0xb1]⟩ 1 none)))) = true from hI)
          obtain rfl := of_decide_eq_true hq0
          rcases Bool.or_eq_true_iff.mp hq with hq | hq
          · obtain ⟨r1, r2⟩ := Bool.and_eq_true_iff.mp hq
            obtain rfl := of_decide_eq_true r1
            exact xs_call (a := a) (b := b) (l := l) (kind := 2) (by decide) rfl hG IH hme hok hnx hd r2 h
          · simp only [Bool.and_eq_true] at hq
            obtain ⟨⟨⟨r1, r2⟩, r3⟩, r4⟩ := hq
            obtain ⟨rfl, s2⟩ := of_decide_eq_true r1
            exact xl_oinit (a := a) (b := b) (l := l) IH hme hok hnx hd (xwg_of r2) (xwg_of r3) (xwg_of r4) s2 h
        all_goals exact absurd (show false = true from hI) (by decide)
    · exact absurd hoke (by simp)
/-- THE RUN IS SOUND -/
theorem xrun_ok (hG : xGl Tc Ms cl tys) : ∀ n : Nat, xIH ρ base F (xTs Tc) (xNs Tc) cl tys D dA la (xokc Tc Ms cl tys) Ms (xrun Ms n) := by
  intro n
  induction n with
  | zero => intro me cs A k pc _ h; exact absurd h (by change ¬ (false = true); decide)
  | succ n ih => exact xstep_ok hG ih
end XS

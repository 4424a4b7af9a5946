/-! text: the words of the charter are String constants (written by gen44.py) -/
def xm_w : xM := (⟨"AcidCity$Tape", "wordOf", "(I)Ljava/lang/String;"⟩, prog_11_method_11_code, 1, some (.object "java/lang/String"), [], { frames := 0, cells := 0, slots := 0, locals := 0 })
def xm_i : xM := (⟨"AcidCity$Tape", "isWord", "(Ljava/lang/String;II)Z"⟩, prog_11_method_10_code, 5, some .boolean, [], { frames := 2, cells := 0, slots := 0, locals := 40 })
def xm_l : xM := (⟨"java/lang/String", "length", "()I"⟩, prog_18_method_54_code, 1, some .int, [], { frames := 1, cells := 0, slots := 0, locals := 20 })
def xm_c : xM := (⟨"java/lang/String", "coder", "()B"⟩, prog_18_method_152_code, 1, some .byte, [], { frames := 0, cells := 0, slots := 0, locals := 0 })
theorem dkc_0 : decode xm_c.2.1 0 = .ok (.getstatic 38, 3) := by decide +kernel
theorem dkc_3 : decode xm_c.2.1 3 = .ok (.ifCond .eq 10, 3) := by decide +kernel
theorem dkc_6 : decode xm_c.2.1 6 = .ok (.aload_n 0, 1) := by decide +kernel
theorem dkc_7 : decode xm_c.2.1 7 = .ok (.getfield 15, 3) := by decide +kernel
theorem dkc_10 : decode xm_c.2.1 10 = .ok (.goto 4, 3) := by decide +kernel
theorem dkc_14 : decode xm_c.2.1 14 = .ok (.ireturn, 1) := by decide +kernel
theorem dkl_0 : decode xm_l.2.1 0 = .ok (.aload_n 0, 1) := by decide +kernel
theorem dkl_1 : decode xm_l.2.1 1 = .ok (.getfield 9, 3) := by decide +kernel
theorem dkl_4 : decode xm_l.2.1 4 = .ok (.arraylength, 1) := by decide +kernel
theorem dkl_5 : decode xm_l.2.1 5 = .ok (.aload_n 0, 1) := by decide +kernel
theorem dkl_6 : decode xm_l.2.1 6 = .ok (.invokevirtual 335, 3) := by decide +kernel
theorem dkl_9 : decode xm_l.2.1 9 = .ok (.ishr, 1) := by decide +kernel
theorem dkl_10 : decode xm_l.2.1 10 = .ok (.ireturn, 1) := by decide +kernel
theorem dki_0 : decode xm_i.2.1 0 = .ok (.iload_n 3, 1) := by decide +kernel
theorem dki_1 : decode xm_i.2.1 1 = .ok (.iload_n 2, 1) := by decide +kernel
theorem dki_2 : decode xm_i.2.1 2 = .ok (.isub, 1) := by decide +kernel
theorem dki_3 : decode xm_i.2.1 3 = .ok (.aload_n 1, 1) := by decide +kernel
theorem dki_4 : decode xm_i.2.1 4 = .ok (.invokevirtual 89, 3) := by decide +kernel
theorem dki_7 : decode xm_i.2.1 7 = .ok (.if_icmp .eq 5, 3) := by decide +kernel
theorem dki_10 : decode xm_i.2.1 10 = .ok (.iconst 0, 1) := by decide +kernel
theorem dki_11 : decode xm_i.2.1 11 = .ok (.ireturn, 1) := by decide +kernel
theorem dkw_0 : decode xm_w.2.1 0 = .ok (.iload_n 0, 1) := by decide +kernel
theorem dkw_1 : decode xm_w.2.1 1 = .ok (.tableswitch 50 0 4 #[35, 38, 41, 44, 47], 35) := by decide +kernel
theorem dkw_36 : decode xm_w.2.1 36 = .ok (.ldc 98, 2) := by decide +kernel
theorem dkw_38 : decode xm_w.2.1 38 = .ok (.areturn, 1) := by decide +kernel
theorem dkw_39 : decode xm_w.2.1 39 = .ok (.ldc 100, 2) := by decide +kernel
theorem dkw_41 : decode xm_w.2.1 41 = .ok (.areturn, 1) := by decide +kernel
theorem dkw_42 : decode xm_w.2.1 42 = .ok (.ldc 102, 2) := by decide +kernel
theorem dkw_44 : decode xm_w.2.1 44 = .ok (.areturn, 1) := by decide +kernel
theorem dkw_45 : decode xm_w.2.1 45 = .ok (.ldc 104, 2) := by decide +kernel
theorem dkw_47 : decode xm_w.2.1 47 = .ok (.areturn, 1) := by decide +kernel
theorem dkw_48 : decode xm_w.2.1 48 = .ok (.ldc 106, 2) := by decide +kernel
theorem dkw_50 : decode xm_w.2.1 50 = .ok (.areturn, 1) := by decide +kernel
theorem dkw_51 : decode xm_w.2.1 51 = .ok (.ldc 108, 2) := by decide +kernel
theorem dkw_53 : decode xm_w.2.1 53 = .ok (.areturn, 1) := by decide +kernel
theorem dkb_0 : decode xm_85.2.1 0 = .ok (.iconst 0, 1) := by decide +kernel
theorem dkb_1 : decode xm_85.2.1 1 = .ok (.istore_n 3, 1) := by decide +kernel
theorem dkb_2 : decode xm_85.2.1 2 = .ok (.iload_n 3, 1) := by decide +kernel
theorem dkb_3 : decode xm_85.2.1 3 = .ok (.bipush 6, 2) := by decide +kernel
theorem dkb_5 : decode xm_85.2.1 5 = .ok (.if_icmp .ge 24, 3) := by decide +kernel
theorem dkb_8 : decode xm_85.2.1 8 = .ok (.aload_n 0, 1) := by decide +kernel
theorem dkb_9 : decode xm_85.2.1 9 = .ok (.iload_n 3, 1) := by decide +kernel
theorem dkb_10 : decode xm_85.2.1 10 = .ok (.invokestatic 81, 3) := by decide +kernel
theorem dkb_13 : decode xm_85.2.1 13 = .ok (.iload_n 1, 1) := by decide +kernel
theorem dkb_14 : decode xm_85.2.1 14 = .ok (.iload_n 2, 1) := by decide +kernel
theorem dkb_15 : decode xm_85.2.1 15 = .ok (.invokevirtual 85, 3) := by decide +kernel
theorem dkb_18 : decode xm_85.2.1 18 = .ok (.ifCond .eq 5, 3) := by decide +kernel
theorem dkb_23 : decode xm_85.2.1 23 = .ok (.iinc 3 1, 3) := by decide +kernel
theorem dkb_26 : decode xm_85.2.1 26 = .ok (.goto (-24), 3) := by decide +kernel
theorem dkb_29 : decode xm_85.2.1 29 = .ok (.ldc 63, 2) := by decide +kernel
theorem dkb_31 : decode xm_85.2.1 31 = .ok (.ireturn, 1) := by decide +kernel
def kwP (dA : Nat → ClassId) (vc : List Value) : Array Value → State → Prop := fun v U => v = vc.toArray ∧ xKA dA xTys U
def kwQ (r : Value) : Array Value → State → Outcome → State → Prop := fun _ st o t => t.heap = st.heap ∧ o = .returned (some r)
theorem kwP_blind {dA : Nat → ClassId} {vc : List Value} : FrameBlind (kwP dA vc) := fun a U g mk q => ⟨q.1, xKA.same (u := U) (U := U.calling g mk a) rfl rfl q.2⟩
theorem kw_good : ∀ w ∈ xTs xTc, goodWord w = true := fun w h => xTs_good _ _ h
section KW
variable {ρ : Nat → Int32} {base : Nat} {F : Nat → Prop} {D : va_G} {dA : Nat → ClassId} {la : Launch} {p : Program} {e : Env} {s : State} {m : MethodId} {args : Array Value} {below : List Frame} {meth : Method} {c : Code} {me mc : xM} {H : Heap} {locs : List Loc} {cells slots pc idx n : Nat} {ls : Array Slot} {rest As : List Value} {r : Value} {Q : State → Prop}
theorem kw_after {R : Room} {st0 : List Value} {av : Array Value} (hr : va_Run p la e R s m args below meth c H locs cells slots 0 0 (F0 m pc ls st0) rest (kwQ r av) (fun _ => False)) (kk : W p la e R s m args below meth c H locs cells slots Q (F0 m (pc + 3) ls (r :: rest))) : W p la e R s m args below meth c H locs cells slots Q (F0 m pc ls st0) := by
  intro T hT S
  obtain ⟨v, st₀, t, T', L, h0, X', hL', e1, e2, ⟨q1, q2⟩, go⟩ := hr T hT S
  have hL : L = [] := by
    cases L with
    | nil => rfl
    | cons a l => exact absurd (hL' a List.mem_cons_self) id
  subst hL
  rw [List.append_nil] at X'
  cases q2
  obtain ⟨t2, a1, b1⟩ := kk T' (e1.trans (q1.trans h0)) X'
  exact ⟨t2, go t2 a1, b1⟩
/-- what holds in a frame of these methods -/
def kwC (p : Program) (s : State) (m : MethodId) (args : Array Value) (c : Code) (me : xM) : Prop := p.tables.exec = Jvm.exec ∧ c.code = me.2.1 ∧ c.maxLocals = me.2.2.1 ∧ s.vm.findClass me.1.cls = some m.cls ∧ (∀ w ∈ xWs (xTs xTc) me, w.before args s = true)
def kwO (me mc : xM) (idx n : Nat) : Prop := Jvm.Cond.code mc.1 mc.2.1 mc.2.2.1 mc.2.2.2.1 ∈ xTs xTc ∧ Jvm.Cond.initialized mc.1.cls ∈ xTs xTc ∧ Jvm.Cond.methodLink me.1.cls idx mc.1 ∈ xTs xTc ∧ (mc.1.cls ≠ "java/lang/invoke/MethodHandle" ∧ mc.1.cls ≠ "java/lang/invoke/VarHandle" ∧ (parseMethodDescriptor mc.1.desc).map (fun d => d.parameters.length) = some n) ∧ ((xR mc).frames + 1 ≤ (xR me).frames ∧ 8 + (mc.2.2.1 + 11) + (xR mc).locals ≤ (xR me).locals) ∧ (xR mc).cells = 0 ∧ (xR mc).slots = 0
theorem kw_V {b9 : Nat} (C : kwC p s m args c me) (ok : kwO me mc idx n) (w4 : Jvm.Cond.instanceMethod mc.1 ∈ xTs xTc) (w5 : Jvm.Cond.selects mc.1.cls mc.1 mc.1 ∈ xTs xTc) (hM : Met la mc.1 (xWs (xTs xTc) mc) (xR mc) (kwP dA (.ref b9 :: As)) (kwQ r) 0 0 (fun _ => False)) (hrv : ∃ cell : Cell, H[b9]? = some cell ∧ cell.vm.isStatics = false ∧ s.vm.findClass mc.1.cls = some cell.cls) (hKA : ∀ U : State, U.heap = H → s.WarmedH U.vm → xKA dA xTys U) (hn : As.length = n) (hls : ls.size = me.2.2.1) (hrm : (rest.map fun v => v.category).sum ≤ 8) (hd : decode me.2.1 pc = .ok (.invokevirtual idx, 3)) (hf : cells ≤ (xR me).cells ∧ slots ≤ (xR me).slots) (kk : W p la e (xR me) s m args below meth c H locs cells slots Q (F0 m (pc + 3) ls (r :: rest))) : W p la e (xR me) s m args below meth c H locs cells slots Q (F0 m pc ls (As.reverse ++ .ref b9 :: rest)) := by
  obtain ⟨hx, hb, hml, hown, hts⟩ := C
  obtain ⟨w1, w2, w3, hmh, hroom, z1, z2⟩ := ok
  have hw : ∀ w ∈ xTs xTc, w.before args s = true := fun w q => hts w (List.mem_cons_of_mem _ q)
  exact kw_after (va_runV (g := F0 m pc ls (As.reverse ++ .ref b9 :: rest)) ⟨hx, hb, hml, hown, hts⟩ hM ⟨callB_of n hts (xGoodIn kw_good w1) rfl z1 z2 (hw _ w2) (hw _ w3) hmh hroom, hw _ w4, hw _ w5⟩ ⟨kwP_blind, hrv, fun U hU hWm => ⟨rfl, hKA U hU hWm⟩⟩ rfl hn hls rfl (lv_room hrm) hd hf) kk
theorem kw_S (C : kwC p s m args c me) (ok : kwO me mc idx n) (w4 : Jvm.Cond.static mc.1 ∈ xTs xTc) (hM : Met la mc.1 (xWs (xTs xTc) mc) (xR mc) (kwP dA As) (kwQ r) 0 0 (fun _ => False)) (hKA : ∀ U : State, U.heap = H → s.WarmedH U.vm → xKA dA xTys U) (hn : As.length = n) (hls : ls.size = me.2.2.1) (hrm : (rest.map fun v => v.category).sum ≤ 8) (hd : decode me.2.1 pc = .ok (.invokestatic idx, 3)) (hf : cells ≤ (xR me).cells ∧ slots ≤ (xR me).slots) (kk : W p la e (xR me) s m args below meth c H locs cells slots Q (F0 m (pc + 3) ls (r :: rest))) : W p la e (xR me) s m args below meth c H locs cells slots Q (F0 m pc ls (As.reverse ++ rest)) := by
  obtain ⟨hx, hb, hml, hown, hts⟩ := C
  obtain ⟨w1, w2, w3, hmh, hroom, z1, z2⟩ := ok
  have hw : ∀ w ∈ xTs xTc, w.before args s = true := fun w q => hts w (List.mem_cons_of_mem _ q)
  exact kw_after (va_runS (g := F0 m pc ls (As.reverse ++ rest)) ⟨hx, hb, hml, hown, hts⟩ hM ⟨callB_of n hts (xGoodIn kw_good w1) rfl z1 z2 (hw _ w2) (hw _ w3) hmh hroom, hw _ w4⟩ ⟨kwP_blind, fun U hU hWm => ⟨rfl, hKA U hU hWm⟩⟩ rfl hn hls rfl (lv_room hrm) hd hf) kk
theorem kw_none {P : Loc → Prop} : ∀ q ∈ ([] : List Loc), P q := fun _ h => absurd h List.not_mem_nil
theorem kw_KA (hKA : xKA dA xTys s) : ∀ U : State, U.heap = s.heap → s.WarmedH U.vm → xKA dA xTys U := fun U hU hW => xKA.warm hW (fun q _ _ => by rw [hU]) hKA
theorem kw_coder (i : Nat) (hi : i < 11) : Met la xm_c.1 (xWs (xTs xTc) xm_c) (xR xm_c) (kwP dA [.ref (dA (1000 + i))]) (kwQ (.int 0)) 0 0 (fun _ => False) := by
  refine Met.ofW (cc := xm_c.2.1) (maxL := 1) (ret := some .byte) (by decide +kernel) rfl ?_
  intro p e s m args below meth c s₁ B hml hP
  obtain ⟨rfl, hKA⟩ := hP
  have hts := atoms_spec (ws := xWs (xTs xTc) xm_c) B.pre
  have hw : ∀ w ∈ xTs xTc, w.before _ s = true := fun w q => hts w (List.mem_cons_of_mem _ q)
  have hx := B.exec
  have hb : c.code = xm_c.2.1 := B.bytes
  have hown : s.vm.findClass "java/lang/String" = some m.cls := findClass_of_methodNamed B.named
  have hl := lv_entry [Value.ref (dA (1000 + i))] (n := 1) (Nat.le_refl _)
  rw [lg_entry_eq]
  refine va_gets hx hb hKA.2.2.2.2 va_S.rf hown (hw _ (xwg_of (i := 13407) (by decide +kernel))) (fun _ h => h) dkc_0 ?_
  refine lv_if_eq (tgt := 13) hx hb dkc_3 (by decide) (fun q => absurd q (by decide)) (fun _ => ?_)
  refine lv_aload_n hx hb dkc_6 rfl (lv_at hl 0 rfl) ?_
  refine vk_getf hx hb (hKA.2.2.1.1 i hi).2.1 va_S.rf hown (hw _ (xwg_of (i := 19505) (by decide +kernel))) (fun _ h => h) dkc_7 ?_
  refine lv_goto (tgt := 14) hx hb dkc_10 (by decide) ?_
  exact W.zret hx hb B.returns (by decide) (fun t ht _ => ⟨ht, rfl⟩) kw_none dkc_14 B.notSynchronized
theorem kw_ok_lc : kwO xm_l xm_c 335 0 := ⟨(xwg_of (i := 13406) (by decide +kernel)), (xwg_of (i := 9233) (by decide +kernel)), (xwg_of (i := 13403) (by decide +kernel)), by decide +kernel, by decide, rfl, rfl⟩
theorem kw_length (i : Nat) (hi : i < 11) : Met la xm_l.1 (xWs (xTs xTc) xm_l) (xR xm_l) (kwP dA [.ref (dA (1000 + i))]) (kwQ (.int (Int32.ofNat (xsl.getD i 0) >>> ((0 : Int32) &&& 31)))) 0 0 (fun _ => False) := by
  refine Met.ofW (cc := xm_l.2.1) (maxL := 1) (ret := some .int) (by decide +kernel) rfl ?_
  intro p e s m args below meth c s₁ B hml hP
  obtain ⟨rfl, hKA⟩ := hP
  have hts := atoms_spec (ws := xWs (xTs xTc) xm_l) B.pre
  have hw : ∀ w ∈ xTs xTc, w.before _ s = true := fun w q => hts w (List.mem_cons_of_mem _ q)
  have hx := B.exec
  have hb : c.code = xm_l.2.1 := B.bytes
  have hown : s.vm.findClass "java/lang/String" = some m.cls := findClass_of_methodNamed B.named
  have hl := lv_entry [Value.ref (dA (1000 + i))] (n := 1) (Nat.le_refl _)
  rw [lg_entry_eq]
  obtain ⟨hO, -, hV, hT⟩ := hKA.2.2.1.1 i hi
  refine lv_aload_n hx hb dkl_0 rfl (lv_at hl 0 rfl) ?_
  refine vk_getf hx hb hV va_S.rf hown (hw _ (xwg_of (i := 19504) (by decide +kernel))) (fun _ h => h) dkl_1 ?_
  refine va_tlen hx hb hT va_S.rf rfl dkl_4 ?_
  refine lv_aload_n hx hb dkl_5 rfl (lv_at hl 0 rfl) ?_
  refine kw_V (me := xm_l) (mc := xm_c) (As := []) ⟨hx, hb, hml, hown, hts⟩ kw_ok_lc (xwg_of (i := 13404) (by decide +kernel)) (xwg_of (i := 13405) (by decide +kernel)) (kw_coder i hi) (by obtain ⟨cell, g1, g2, g3, -⟩ := hO; exact ⟨cell, g1, g2, g3⟩) (kw_KA hKA) rfl hl.1 (show (1 : Nat) + 0 ≤ 8 by decide) dkl_6 ⟨Nat.le_refl _, Nat.le_refl _⟩ ?_
  refine lv_ishr hx hb dkl_9 ?_
  exact W.zret hx hb B.returns rfl (fun t ht _ => ⟨ht, rfl⟩) kw_none dkl_10 B.notSynchronized
theorem kw_ok_il : kwO xm_i xm_l 89 0 := ⟨(xwg_of (i := 13402) (by decide +kernel)), (xwg_of (i := 9233) (by decide +kernel)), (xwg_of (i := 13399) (by decide +kernel)), by decide +kernel, by decide, rfl, rfl⟩
theorem kw_ne : ∀ i, i < 11 → ¬ ((nI 0 - nI 0 : Int32) = Int32.ofNat (xsl.getD i 0) >>> ((0 : Int32) &&& 31)) := by decide
theorem kw_isWord (i o : Nat) (hi : i < 11) : Met la xm_i.1 (xWs (xTs xTc) xm_i) (xR xm_i) (kwP dA [.ref o, .ref (dA (1000 + i)), .int (nI 0), .int (nI 0)]) (kwQ (.int 0)) 0 0 (fun _ => False) := by
  refine Met.ofW (cc := xm_i.2.1) (maxL := 5) (ret := some .boolean) (by decide +kernel) rfl ?_
  intro p e s m args below meth c s₁ B hml hP
  obtain ⟨rfl, hKA⟩ := hP
  have hts := atoms_spec (ws := xWs (xTs xTc) xm_i) B.pre
  have hw : ∀ w ∈ xTs xTc, w.before _ s = true := fun w q => hts w (List.mem_cons_of_mem _ q)
  have hx := B.exec
  have hb : c.code = xm_i.2.1 := B.bytes
  have hown : s.vm.findClass "AcidCity$Tape" = some m.cls := findClass_of_methodNamed B.named
  have hl := lv_entry [Value.ref o, Value.ref (dA (1000 + i)), .int (nI 0), .int (nI 0)] (n := 5) (Nat.le_succ 4)
  rw [lg_entry_eq]
  obtain ⟨hO, -, -, -⟩ := hKA.2.2.1.1 i hi
  refine lv_iload_n hx hb dki_0 rfl (lv_at hl 3 rfl) ?_
  refine lv_iload_n hx hb dki_1 rfl (lv_at hl 2 rfl) ?_
  refine lv_isub hx hb dki_2 ?_
  refine lv_aload_n hx hb dki_3 rfl (lv_at hl 1 rfl) ?_
  refine kw_V (me := xm_i) (mc := xm_l) (As := []) ⟨hx, hb, hml, hown, hts⟩ kw_ok_il (xwg_of (i := 13400) (by decide +kernel)) (xwg_of (i := 13401) (by decide +kernel)) (kw_length i hi) (by obtain ⟨cell, g1, g2, g3, -⟩ := hO; exact ⟨cell, g1, g2, g3⟩) (kw_KA hKA) rfl hl.1 (show (1 : Nat) + 0 ≤ 8 by decide) dki_4 ⟨Nat.le_refl _, Nat.le_refl _⟩ ?_
  refine lv_icmp_eq (tgt := 12) hx hb dki_7 (by decide) (fun q => absurd q (kw_ne i hi)) (fun _ => ?_)
  refine lv_iconst (v := 0) hx hb dki_10 (by decide) ?_
  exact W.zret hx hb B.returns (by decide) (fun t ht _ => ⟨ht, rfl⟩) kw_none dki_11 B.notSynchronized
theorem kw_wordOf (i : Nat) (hi : i < 6) : Met la xm_w.1 (xWs (xTs xTc) xm_w) (xR xm_w) (kwP dA [.int (nI i)]) (kwQ (.ref (dA (1000 + i)))) 0 0 (fun _ => False) := by
  refine Met.ofW (cc := xm_w.2.1) (maxL := 1) (ret := some (.object "java/lang/String")) (by decide +kernel) rfl ?_
  intro p e s m args below meth c s₁ B hml hP
  obtain ⟨rfl, hKA⟩ := hP
  have hx := B.exec
  have hb : c.code = xm_w.2.1 := B.bytes
  have hown : s.vm.findClass "AcidCity$Tape" = some m.cls := findClass_of_methodNamed B.named
  have hl := lv_entry [Value.int (nI i)] (n := 1) (Nat.le_refl _)
  rw [lg_entry_eq]
  refine lv_iload_n hx hb dkw_0 rfl (lv_at hl 0 rfl) ?_
  have hz := hKA.2.2.2.1 i (by omega)
  have h6 : i = 0 ∨ i = 1 ∨ i = 2 ∨ i = 3 ∨ i = 4 ∨ i = 5 := by omega
  rcases h6 with rfl | rfl | rfl | rfl | rfl | rfl
  · refine lv_tableIn (off := 35) (tgt := 36) hx hb dkw_1 (by decide) (by decide) (by decide) (by decide) ?_
    refine va_ldcS hx hb hown hz dkw_36 ?_
    exact W.aret hx hb B.returns (Or.inl ⟨_, rfl⟩) (Or.inr ⟨_, rfl⟩) (fun t ht _ => ⟨ht, rfl⟩) kw_none dkw_38 B.notSynchronized
  · refine lv_tableIn (off := 38) (tgt := 39) hx hb dkw_1 (by decide) (by decide) (by decide) (by decide) ?_
    refine va_ldcS hx hb hown hz dkw_39 ?_
    exact W.aret hx hb B.returns (Or.inl ⟨_, rfl⟩) (Or.inr ⟨_, rfl⟩) (fun t ht _ => ⟨ht, rfl⟩) kw_none dkw_41 B.notSynchronized
  · refine lv_tableIn (off := 41) (tgt := 42) hx hb dkw_1 (by decide) (by decide) (by decide) (by decide) ?_
    refine va_ldcS hx hb hown hz dkw_42 ?_
    exact W.aret hx hb B.returns (Or.inl ⟨_, rfl⟩) (Or.inr ⟨_, rfl⟩) (fun t ht _ => ⟨ht, rfl⟩) kw_none dkw_44 B.notSynchronized
  · refine lv_tableIn (off := 44) (tgt := 45) hx hb dkw_1 (by decide) (by decide) (by decide) (by decide) ?_
    refine va_ldcS hx hb hown hz dkw_45 ?_
    exact W.aret hx hb B.returns (Or.inl ⟨_, rfl⟩) (Or.inr ⟨_, rfl⟩) (fun t ht _ => ⟨ht, rfl⟩) kw_none dkw_47 B.notSynchronized
  · refine lv_tableIn (off := 47) (tgt := 48) hx hb dkw_1 (by decide) (by decide) (by decide) (by decide) ?_
    refine va_ldcS hx hb hown hz dkw_48 ?_
    exact W.aret hx hb B.returns (Or.inl ⟨_, rfl⟩) (Or.inr ⟨_, rfl⟩) (fun t ht _ => ⟨ht, rfl⟩) kw_none dkw_50 B.notSynchronized
  · refine lv_tableOut (tgt := 51) hx hb dkw_1 (Or.inr (by decide)) (by decide) ?_
    refine va_ldcS hx hb hown hz dkw_51 ?_
    exact W.aret hx hb B.returns (Or.inl ⟨_, rfl⟩) (Or.inr ⟨_, rfl⟩) (fun t ht _ => ⟨ht, rfl⟩) kw_none dkw_53 B.notSynchronized
theorem kw_ok_bw : kwO xm_85 xm_w 81 1 := ⟨(xwg_of (i := 13388) (by decide +kernel)), (xwg_of (i := 9225) (by decide +kernel)), (xwg_of (i := 13386) (by decide +kernel)), by decide +kernel, by decide, rfl, rfl⟩
theorem kw_ok_bi : kwO xm_85 xm_i 85 3 := ⟨(xwg_of (i := 13398) (by decide +kernel)), (xwg_of (i := 9225) (by decide +kernel)), (xwg_of (i := 13395) (by decide +kernel)), by decide +kernel, by decide, rfl, rfl⟩
theorem kb_loop {k : xK} {env : xE} {h : xH} {nn o : Nat} {cc : xC} (C : xCx (xTs xTc) (xNs xTc) vwCl xTys D dA p s m args meth c xm_85) (hρ : xρ ρ env) (hH : xHR ρ base F D dA xTys vwCl h nn H) (hc0 : xat h o = some cc) (hc1 : cc.1 = 9) (hL : va_S F s.heap H locs) (hk : k env h nn (some (.inl 3294967291)) = true) : ∀ (j i : Nat), i + j = 6 → ∀ ls : Array Slot, lv_has ls 4 [(3, .int (nI i)), (0, .ref (base + o)), (1, .int (nI 0)), (2, .int (nI 0))] → W p la e (xR xm_85) s m args below meth c H locs 0 0 (MQ below (xQ ρ base F D dA xTys vwCl k) args s 0 0 F) (F0 m 2 ls []) := by
  have C0 := C
  obtain ⟨hx, hb, hml, hret, hlk, -, hown, hts, -, hK, hKA⟩ := C
  have hw : ∀ w ∈ xTs xTc, w.before args s = true := fun w q => hts w (List.mem_cons_of_mem _ q)
  have hKA' : ∀ U : State, U.heap = H → s.WarmedH U.vm → xKA dA xTys U := fun U hU hWm => xKA.warm hWm (fun q g1 g2 => by rw [hU]; exact hL.2.1 q g1 (fun f => g2 (hH.1.2.2.2 q f))) hKA
  obtain ⟨fs, -, hat⟩ := xobj (hH.2 o cc hc0) (by rw [hc1]; decide)
  rw [hc1] at hat
  have hrv := va_recv hK (xP1 hat) (show vwCl[9]? = some ("AcidCity$Tape", TX9, 11) from rfl) (q0 := 0) rfl
  intro j
  induction j with
  | zero =>
    intro i hi ls hl
    obtain rfl : i = 6 := by omega
    refine lv_iload_n hx hb dkb_2 rfl (lv_at hl 0 rfl) ?_
    refine lv_bipush (v := 6) hx hb dkb_3 (by decide) ?_
    refine lv_icmp_ge (tgt := 29) hx hb dkb_5 (by decide) (fun _ => ?_) (fun q => absurd (by decide) q)
    refine lv_ldc (v := nI 3294967291) hx hb hown (hw _ (xwg_of (i := 13447) (by decide +kernel))) dkb_29 ?_
    exact W.zret hx hb hret rfl (fun t ht _ => ⟨hL.F ht, env, h, nn, _, hk, hρ, by rw [ht]; exact hH, Or.inr ⟨_, _, rfl, rfl, rfl⟩⟩) hL.2.2 dkb_31 hlk
  | succ j ih =>
    intro i hi ls hl
    have hi6 : i < 6 := by omega
    refine lv_iload_n hx hb dkb_2 rfl (lv_at hl 0 rfl) ?_
    refine lv_bipush (v := nI 6) hx hb dkb_3 (by decide) ?_
    refine lv_icmp_ge (tgt := 29) hx hb dkb_5 (by decide) (fun q => absurd q (Int32.not_le.mpr (nI_lt hi6 (by decide)))) (fun _ => ?_)
    refine lv_aload_n hx hb dkb_8 rfl (lv_at hl 1 rfl) ?_
    refine lv_iload_n hx hb dkb_9 rfl (lv_at hl 0 rfl) ?_
    refine kw_S (me := xm_85) (mc := xm_w) (As := [.int (nI i)]) ⟨hx, hb, hml, hown, hts⟩ kw_ok_bw (xwg_of (i := 13387) (by decide +kernel)) (kw_wordOf i hi6) hKA' rfl hl.1 (show (1 : Nat) + 0 ≤ 8 by decide) dkb_10 ⟨Nat.le_refl _, Nat.le_refl _⟩ ?_
    refine lv_iload_n hx hb dkb_13 rfl (lv_at hl 2 rfl) ?_
    refine lv_iload_n hx hb dkb_14 rfl (lv_at hl 3 rfl) ?_
    refine kw_V (me := xm_85) (mc := xm_i) (As := [.ref (dA (1000 + i)), .int (nI 0), .int (nI 0)]) ⟨hx, hb, hml, hown, hts⟩ kw_ok_bi (xwg_of (i := 13397) (by decide +kernel)) (xwg_of (i := 1030) (by decide +kernel)) (kw_isWord i (base + o) (by omega)) hrv hKA' rfl hl.1 (Nat.zero_le _) dkb_15 ⟨Nat.le_refl _, Nat.le_refl _⟩ ?_
    refine lv_if_eq (tgt := 23) hx hb dkb_18 (by decide) (fun _ => ?_) (fun q => absurd rfl q)
    refine lv_iinc (v := nI (i + 1)) (lv' := [(3, .int (nI (i + 1))), (0, .ref (base + o)), (1, .int (nI 0)), (2, .int (nI 0))]) hx hb dkb_23 hl (k := 0) rfl (by rw [← nI_add]; rfl) (by decide) rfl (fun ls hl => ?_)
    refine lv_goto (tgt := 2) hx hb dkb_26 (by decide) ?_
    exact ih (i + 1) (by omega) ls hl
end KW
noncomputable def kbSum : xSm := fun me cs A k d => match cs with
  | [] => d
  | i :: _ => cond (Nat.beq i.1 0) (cond (xmt A.1 [(0, xeqV (xRef 699)), (1, xeqV (.inl 0)), (2, xeqV (.inl 0))]) (cond (Bool.and (Nat.beq A.2.2.2.2.2.1 0) (Nat.beq A.2.2.2.2.2.2 0)) (cond (Bool.and (decide (me.1 = xm_85.1)) (List.isEmpty A.2.1)) (cond (xhget A.2.2.2.1 699 (fun c => Nat.beq c.1 9)) (k A.2.2.1 A.2.2.2.1 A.2.2.2.2.1 (some (.inl 3294967291))) d) d) d) d) d
theorem kb_sum {ρ : Nat → Int32} {base : Nat} {F : Nat → Prop} {D : va_G} {dA : Nat → ClassId} {la : Launch} : xSok ρ base F (xTs xTc) (xNs xTc) vwCl xTys D dA la xMs kbSum := by
  intro me cs A k d pc hme hat h
  cases cs with
  | nil => exact Or.inl h
  | cons i cs =>
    have hpc := hat i cs rfl
    rcases xcondd h with h | ⟨h1, h⟩
    · exact Or.inl h
    rcases xcondd h with h | ⟨h2, h⟩
    · exact Or.inl h
    rcases xcondd h with h | ⟨h3, h⟩
    · exact Or.inl h
    rcases xcondd h with h | ⟨h4, h⟩
    · exact Or.inl h
    rcases xcondd h with h | ⟨h5, h⟩
    · exact Or.inl h
    refine Or.inr ?_
    obtain ⟨lv, st, env, hp, n, uc, us⟩ := A
    have e1 : i.1 = 0 := Nat.eq_of_beq_eq_true h1
    have e3 : uc = 0 := Nat.eq_of_beq_eq_true (xand h3).1
    have e4 : us = 0 := Nat.eq_of_beq_eq_true (xand h3).2
    have e5 : me = xm_85 := kb_uq me hme (of_decide_eq_true (xand h4).1)
    have e6 : st = [] := List.isEmpty_iff.mp (xand h4).2
    obtain ⟨cc, hc0, hc1⟩ := xhget_of h5
    have hc1 := Nat.eq_of_beq_eq_true hc1
    rw [← hpc, e1, e5]
    subst e3; subst e4; subst e6
    obtain ⟨a0, h2⟩ := xmt_cons h2
    obtain ⟨a1, h2⟩ := xmt_cons h2
    obtain ⟨a2, -⟩ := xmt_cons h2
    intro p e s m args below meth c C H locs ls stc hI hL
    obtain ⟨lvc, hl, hlr⟩ := hI.2.1
    obtain ⟨lvc', hl', hlr'⟩ := xpat (ρ' := ρ) hl hlr [(0, xRef 699), (1, .inl 0), (2, .inl 0)] (List.forall_mem_cons.mpr ⟨xe_same a0 (fun v h => h), List.forall_mem_cons.mpr ⟨xe_same a1 (fun v h => h), List.forall_mem_cons.mpr ⟨xe_same a2 (fun v h => h), xe_nil⟩⟩⟩)
    obtain ⟨q0, r0, rfl, k0, g0, hlr'⟩ := xLR_cons hlr'
    obtain ⟨q1, r1, rfl, k1, g1, hlr'⟩ := xLR_cons hlr'
    obtain ⟨q2, r2, rfl, k2, g2, hlr'⟩ := xLR_cons hlr'
    rw [xLR_nil hlr'] at hl'
    obtain ⟨i0, v0⟩ := q0
    obtain ⟨i1, v1⟩ := q1
    obtain ⟨i2, v2⟩ := q2
    have k0 : 0 = i0 := k0
    have k1 : 1 = i1 := k1
    have k2 : 2 = i2 := k2
    have g0 : v0 = .ref (base + 699) := g0
    have g1 : v1 = .int (nI 0) := g1
    have g2 : v2 = .int (nI 0) := g2
    subst k0; subst k1; subst k2; subst g0; subst g1; subst g2
    rw [xSR_nil hI.2.2.1]
    have C0 := C
    obtain ⟨hx, hb, hml, hret, hlk, -, hown, hts, -, hK, hKA⟩ := C
    refine lv_iconst (v := nI 0) hx hb dkb_0 (by decide) ?_
    refine lv_istore_n (lv' := [(3, .int (nI 0)), (0, .ref (base + 699)), (1, .int (nI 0)), (2, .int (nI 0))]) hx hb dkb_1 rfl hl' (by decide) rfl (fun ls hl => ?_)
    exact kb_loop C0 hI.1 hI.2.2.2.1 hc0 hc1 hL h 6 0 rfl ls hl
def xbs_25 : List xBx := [([], .inl 4294967196)]
theorem xsx_25 : xargs (xvs 0) 0 (fun lv => xrunS xMs kbSum 200000 xm_254 (xcd xm_254) (lv, [], xenv0, xSX, 761, 0, 0) (xKs xbs_25 761)) = true := by decide +kernel
theorem xsm_25 : xargs (xvs 0) 0 (fun lv => xrun xMs 200000 xm_255 (xcd xm_255) (lv, [], xenv0, xSM, 21, 0, 0) (xKs xbs_25 21)) = true := by decide +kernel

set_option linter.all false
/-! the world at the law's start; the two objects (written by gen91.py) -/
section LWD
variable {p : Program} {e : Env} {s : State} {m : MethodId} {below : List Frame} {meth : Method} {c : Code} {la : Launch} {b L : Nat} {xs : Nat → Int32} {D : va_G} {dA : Nat → ClassId} {A : Array Value} {Q : State → Prop}
theorem lw_K (hts : ∀ w ∈ lw_tbl, w.before A s = true) : ∃ D : va_G, va_K D vwCl [] s := by
  obtain ⟨c0, i0, h0⟩ := u_known (n := 13) hts (fun w hw => xTs_in w (xcl_0.1 w hw)) (hts _ (xpos (i := 9254) (w := Jvm.Cond.instantiable RX0 13) (by decide +kernel)))
  obtain ⟨c1, i1, h1⟩ := u_known (n := 14) hts (fun w hw => xTs_in w (xcl_1.1 w hw)) (hts _ (xpos (i := 10255) (w := Jvm.Cond.instantiable RX1 14) (by decide +kernel)))
  obtain ⟨c2, i2, h2⟩ := u_known (n := 10) hts (fun w hw => xTs_in w (xcl_2.1 w hw)) (hts _ (xpos (i := 9248) (w := Jvm.Cond.instantiable RX2 10) (by decide +kernel)))
  obtain ⟨c3, i3, h3⟩ := u_known (n := 2) hts (fun w hw => xTs_in w (xcl_3.1 w hw)) (hts _ (xpos (i := 11267) (w := Jvm.Cond.instantiable RX3 2) (by decide +kernel)))
  obtain ⟨c4, i4, h4⟩ := u_known (n := 16) hts (fun w hw => xTs_in w (xcl_4.1 w hw)) (hts _ (xpos (i := 10313) (w := Jvm.Cond.instantiable RX4 16) (by decide +kernel)))
  obtain ⟨c5, i5, h5⟩ := u_known (n := 3) hts (fun w hw => xTs_in w (xcl_5.1 w hw)) (hts _ (xpos (i := 10433) (w := Jvm.Cond.instantiable RX5 3) (by decide +kernel)))
  obtain ⟨c6, i6, h6⟩ := u_known (n := 5) hts (fun w hw => xTs_in w (xcl_6.1 w hw)) (hts _ (xpos (i := 11281) (w := Jvm.Cond.instantiable RX6 5) (by decide +kernel)))
  obtain ⟨c7, i7, h7⟩ := u_known (n := 5) hts (fun w hw => xTs_in w (xcl_7.1 w hw)) (hts _ (xpos (i := 9392) (w := Jvm.Cond.instantiable RX7 5) (by decide +kernel)))
  obtain ⟨c8, i8, h8⟩ := u_known (n := 8) hts (fun w hw => xTs_in w (xcl_8.1 w hw)) (hts _ (xpos (i := 10450) (w := Jvm.Cond.instantiable RX8 8) (by decide +kernel)))
  obtain ⟨c9, i9, h9⟩ := u_known (n := 11) hts (fun w hw => xTs_in w (xcl_9.1 w hw)) (hts _ (xpos (i := 10388) (w := Jvm.Cond.instantiable RX9 11) (by decide +kernel)))
  obtain ⟨c10, i10, h10⟩ := u_known (n := 14) hts (fun w hw => xTs_in w (xcl_10.1 w hw)) (hts _ (xpos (i := 9317) (w := Jvm.Cond.instantiable RX10 14) (by decide +kernel)))
  obtain ⟨c11, i11, h11⟩ := u_known (n := 16) hts (fun w hw => xTs_in w (xcl_11.1 w hw)) (hts _ (xpos (i := 9240) (w := Jvm.Cond.instantiable RX11 16) (by decide +kernel)))
  obtain ⟨c12, i12, h12⟩ := u_known (n := 40) hts (fun w hw => xTs_in w (xcl_12.1 w hw)) (hts _ (xpos (i := 15571) (w := Jvm.Cond.instantiable RX12 40) (by decide +kernel)))
  refine ⟨(fun c => match c with | 0 => c0 | 1 => c1 | 2 => c2 | 3 => c3 | 4 => c4 | 5 => c5 | 6 => c6 | 7 => c7 | 8 => c8 | 9 => c9 | 10 => c10 | 11 => c11 | _ => c12, fun c => match c with | 0 => i0 | 1 => i1 | 2 => i2 | 3 => i3 | 4 => i4 | 5 => i5 | 6 => i6 | 7 => i7 | 8 => i8 | 9 => i9 | 10 => i10 | 11 => i11 | _ => i12), fun c q e => ?_, fun k q e => by cases e⟩
  match c, e with
  | 0, e => cases e; exact h0
  | 1, e => cases e; exact h1
  | 2, e => cases e; exact h2
  | 3, e => cases e; exact h3
  | 4, e => cases e; exact h4
  | 5, e => cases e; exact h5
  | 6, e => cases e; exact h6
  | 7, e => cases e; exact h7
  | 8, e => cases e; exact h8
  | 9, e => cases e; exact h9
  | 10, e => cases e; exact h10
  | 11, e => cases e; exact h11
  | 12, e => cases e; exact h12
  | n + 13, e => simp [vwCl] at e
def lw_tm (i : Nat) : Term := .string "AcidCity$Tape" (98 + 2 * i)
theorem lw_f1 : ∀ i, i < 11 → Jvm.Cond.exactly (lw_tm i) "java/lang/String" ∈ flatC (Jvm.Cond.and given_1 narrow_1) := by decide +kernel
theorem lw_f2 : ∀ i, i < 11 → Jvm.Cond.eq (.field (lw_tm i) "java/lang/String" "coder" "B") (.int 0) ∈ flatC (Jvm.Cond.and given_1 narrow_1) := by decide +kernel
theorem lw_f3 : ∀ i, i < 11 → Jvm.Cond.arrayOf (.field (lw_tm i) "java/lang/String" "value" "[B") .byte ∈ flatC (Jvm.Cond.and given_1 narrow_1) := by decide +kernel
theorem lw_f4 : ∀ i, i < 11 → Jvm.Cond.eq (.length (.field (lw_tm i) "java/lang/String" "value" "[B")) (.int (Int32.ofNat (xsl.getD i 0))) ∈ flatC (Jvm.Cond.and given_1 narrow_1) := by decide +kernel
theorem lw_f5 : ∀ i, i < 11 → ∀ j, j < xsl.getD i 0 → Jvm.Cond.eq (.elem (.field (lw_tm i) "java/lang/String" "value" "[B") (.int (Int32.ofNat j))) (.int ((xsb.getD i []).getD j 0)) ∈ flatC (Jvm.Cond.and given_1 narrow_1) := by decide +kernel
theorem lw_f6 : ∀ i, i < 11 → ∀ j, j < 11 → i ≠ j → Jvm.Cond.not (Jvm.Cond.eq (lw_tm i) (lw_tm j)) ∈ flatC (Jvm.Cond.and given_1 narrow_1) ∨ Jvm.Cond.not (Jvm.Cond.eq (lw_tm j) (lw_tm i)) ∈ flatC (Jvm.Cond.and given_1 narrow_1) := by decide +kernel
theorem lw_f7 : Jvm.Cond.eq (.static "java/lang/String" "COMPACT_STRINGS" "Z") (.int 1) ∈ flatC (Jvm.Cond.and given_1 narrow_1) := by decide +kernel
theorem lw_f8 : Jvm.Cond.isRef (.static "jdk/internal/util/Preconditions" "SIOOBE_FORMATTER" "Ljava/util/function/BiFunction;") ∈ flatC (Jvm.Cond.and given_1 narrow_1) := by decide +kernel
theorem lw_sr : ∀ i, i < 11 → Jvm.Cond.stringRef "AcidCity$Tape" (98 + 2 * i) (xst.getD i "") ∈ lw_tbl
  | 0, _ => xpos (i := 13389) (by decide +kernel)
  | 1, _ => xpos (i := 13390) (by decide +kernel)
  | 2, _ => xpos (i := 13391) (by decide +kernel)
  | 3, _ => xpos (i := 13392) (by decide +kernel)
  | 4, _ => xpos (i := 13393) (by decide +kernel)
  | 5, _ => xpos (i := 13394) (by decide +kernel)
  | 6, _ => xpos (i := 13455) (by decide +kernel)
  | 7, _ => xpos (i := 13456) (by decide +kernel)
  | 8, _ => xpos (i := 13457) (by decide +kernel)
  | 9, _ => xpos (i := 13458) (by decide +kernel)
  | 10, _ => xpos (i := 13459) (by decide +kernel)
  | n + 11, h => absurd h (by omega)
theorem lw_arr {ty : FieldType} {c k comp : _} (h1 : s.vm.classes[c]? = some k) (h2 : Class.kind k = .array comp ty) : ArrOfT s c ty := fun n z => ⟨(fun q h => by (cases h)), k, h1, comp, h2⟩
theorem lw_A (hts : ∀ w ∈ lw_tbl, w.before A s = true) (hgv : (Jvm.Cond.and given_1 narrow_1).before A s = true) : ∃ dA : Nat → ClassId, xKA dA xTys s ∧ dA 5000 = s.heap.size := by
  obtain ⟨a0, k0, m0, f0, g0, e0⟩ := Cond.arrayClass_spec (hts _ (xpos (i := 9315) (w := Jvm.Cond.arrayClass .int) (by decide +kernel)))
  obtain ⟨a1, k1, m1, f1, g1, e1⟩ := Cond.arrayClass_spec (hts _ (xpos (i := 11279) (w := Jvm.Cond.arrayClass .long) (by decide +kernel)))
  have hAO : (Jvm.Cond.arrayOver (.array .int)).before A s = true := hts _ (xpos (i := 9260) (w := Jvm.Cond.arrayOver (.array .int)) (by decide +kernel))
  obtain ⟨m2, a2, k2, -, -, g2, e2, f2⟩ := arrayOverA_spec hAO
  have fl := flat_of_before _ hgv
  have hout : ∀ a : Nat, a < s.heap.size → ¬ (fun q => s.heap.size ≤ q) a := fun a h => Nat.not_le.mpr h
  obtain ⟨adK, adV, hS, hT⟩ := vk_Sof (args := A) (s := s) (N := 11) (tm := lw_tm) (len := xsl) (byt := xsb) (A := fun q => s.heap.size ≤ q) (by decide) (fun i hi => fl _ (lw_f1 i hi)) (fun i hi => fl _ (lw_f2 i hi)) (fun i hi => fl _ (lw_f3 i hi)) (fun i hi => fl _ (lw_f4 i hi)) (fun i hi j hj => fl _ (lw_f5 i hi j hj)) (fun i j hi hj hn => (lw_f6 i hi j hj hn).imp (fun q => fl _ q) (fun q => fl _ q)) hout
  have hZ : va_Z "java/lang/String" "COMPACT_STRINGS" "Z" (.int 1) (fun q => s.heap.size ≤ q) s s.heap := va_Zof (args := A) (hts _ (xpos (i := 13408) (w := Jvm.Cond.laysStatic "java/lang/String" "COMPACT_STRINGS" "Z") (by decide +kernel))) (hts _ (xpos (i := 9233) (w := Jvm.Cond.initialized "java/lang/String") (by decide +kernel))) (va_eqt (fl _ lw_f7)) hout
  have hZq : va_Zq "jdk/internal/util/Preconditions" "SIOOBE_FORMATTER" "Ljava/util/function/BiFunction;" (fun q => s.heap.size ≤ q) s s.heap := va_Zqof (args := A) (hts _ (xpos (i := 13424) (w := Jvm.Cond.laysStatic "jdk/internal/util/Preconditions" "SIOOBE_FORMATTER" "Ljava/util/function/BiFunction;") (by decide +kernel))) (hts _ (xpos (i := 9235) (w := Jvm.Cond.initialized "jdk/internal/util/Preconditions") (by decide +kernel))) (fl _ lw_f8) hout
  obtain ⟨dA, d0, d1, d2, dK, dV, d5⟩ : ∃ dA : Nat → ClassId, dA 0 = a0 ∧ dA 1 = a1 ∧ dA 2 = a2 ∧ (∀ i, i < 11 → dA (1000 + i) = adK i) ∧ (∀ i, i < 11 → dA (2000 + i) = adV i) ∧ dA 5000 = s.heap.size := by
    refine ⟨fun n => if n = 0 then a0 else if n = 1 then a1 else if n = 2 then a2 else if n < 2000 then adK (n - 1000) else if n < 5000 then adV (n - 2000) else s.heap.size, ?_, ?_, ?_, ?_, ?_, ?_⟩
    · simp
    · simp
    · simp
    · intro i hi
      show (if 1000 + i = 0 then a0 else if 1000 + i = 1 then a1 else if 1000 + i = 2 then a2 else if 1000 + i < 2000 then adK (1000 + i - 1000) else if 1000 + i < 5000 then adV (1000 + i - 2000) else s.heap.size) = adK i
      rw [if_neg (by omega), if_neg (by omega), if_neg (by omega), if_pos (by omega), show 1000 + i - 1000 = i by omega]
    · intro i hi
      show (if 2000 + i = 0 then a0 else if 2000 + i = 1 then a1 else if 2000 + i = 2 then a2 else if 2000 + i < 2000 then adK (2000 + i - 1000) else if 2000 + i < 5000 then adV (2000 + i - 2000) else s.heap.size) = adV i
      rw [if_neg (by omega), if_neg (by omega), if_neg (by omega), if_neg (by omega), if_pos (by omega), show 2000 + i - 2000 = i by omega]
    · simp
  refine ⟨dA, ⟨fun i ty q => ?_, hAO, ⟨fun i hi => ?_, fun i j hi hj q => ?_⟩, fun i hi => ?_, ?_, ?_⟩, d5⟩
  · match i, q with
    | 0, q => cases q; rw [d0]; exact ⟨lw_arr g0 e0, f0⟩
    | 1, q => cases q; rw [d1]; exact ⟨lw_arr g1 e1, f1⟩
    | 2, q => cases q; rw [d2]; exact ⟨lw_arr g2 e2, f2⟩
    | n + 3, q => simp [xTys] at q
  · have h := hS.1 i hi
    rw [← dK i hi, ← dV i hi, ← d5] at h
    exact h
  · have q : dA (1000 + i) = dA (1000 + j) := q
    rw [dK i hi, dK j hj] at q
    exact hS.2 i j hi hj q
  · rw [dK i hi]
    exact vk_R.of (A := A) (hts _ (lw_sr i hi)) (hT i hi)
  · rw [d5]
    exact hZ
  · rw [d5]
    exact hZq
/-- one object alone -/
theorem xat_alone {cc : xC} {rows : List (List xC)} (hr : ∀ r ∈ rows, r = []) : ∀ i, i ≠ 0 → xat ([cc] :: rows) i = none := by
  intro i hi
  unfold xat
  cases hq : i / 64 with
  | zero =>
    have h1 : i % 64 ≠ 0 := by omega
    show ([cc] : List xC)[i % 64]? = none
    exact List.getElem?_eq_none (by show 1 ≤ i % 64; omega)
  | succ k =>
    show (rows[k]?).bind (fun r => r[i % 64]?) = none
    cases hr2 : rows[k]? with
    | none => rfl
    | some r =>
      have := hr r (List.mem_of_getElem? hr2)
      subst this
      rfl
theorem xat_nil (i : Nat) : xat ([] : xH) i = none := rfl
theorem lw_new {idx ci N bs : Nat} {C : String} {T : u_T} (ty : Nat → FieldType) {l : List Nat} (C0 : lw_Cx p s m meth c b L xs D dA) (hcl : vwCl[ci]? = some (C, T, N)) (hci : ci < 100) (hu : ∀ w ∈ u_ws C T N, w ∈ lw_tbl) (hty : ∀ k, k < N → parseFieldDescriptor (T k).2.2.1 = some (ty k)) (hln : l.length = N) (hN : N ≤ 64) (hl : ∀ k, k < N → l[k]? = some (xkt (ty k)) ∧ xkt (ty k) ≠ 9) (h1 : Jvm.Cond.classLink R_law idx C ∈ lw_tbl) (h2 : Jvm.Cond.instantiable C N ∈ lw_tbl) (h3 : Jvm.Cond.initialized C ∈ lw_tbl) {pc cells slots : Nat} {H : Heap} {locs : List Loc} {ls : Array Slot} {st : List Value} {F : Nat → Prop} (hd : decode code pc = .ok (.new idx, 3)) (hc : cells + 1 ≤ room_1.cells) (hs : slots + N ≤ room_1.slots) (hbs : H.size = bs) (hF : ∀ q, bs ≤ q → F q) (hF5 : ∀ q, F q → dA 5000 ≤ q) {h' : xH} (e1 : xat h' 0 = some (ci, N, [l.map xdef])) (e2 : ∀ i, i ≠ 0 → xat h' i = none) (hS : va_S (fun q => s.heap.size ≤ q) s.heap H locs)
    (kk : ∀ H1 : Heap, xHR (xext xs) bs F D dA xTys vwCl h' 1 H1 → (∀ q, q < bs → H1[q]? = H[q]?) → va_S (fun q => s.heap.size ≤ q) s.heap H1 locs → W p la e room_1 s m #[Value.ref b] below meth c H1 locs (cells + 1) (slots + N) Q (F0 m (pc + 3) ls (.ref bs :: st))) : W p la e room_1 s m #[Value.ref b] below meth c H locs cells slots Q (F0 m pc ls st) := by
  obtain ⟨⟨hx, hb, hr, hml, hown, hts, hX, hbl, hlocks, hgv⟩, hK, hKA⟩ := C0
  have hKn := hK.1 ci _ hcl
  refine W.newcK hx hb hown (hts _ h1) (hts _ h2) (hts _ h3) rfl hd hc hs hKn.2.1 hbs fun H1 kC hkC g1 z1 o1 => ?_
  have hfs : ∀ j, j < N → defaultValue (ty j) = vp_V (l.map xdefV) j := by
    intro j hj
    rw [xdefT (hl j hj).2]
    simp [vp_V, (hl j hj).1]
  have hob := (u_born ty hts hu hKn hkC g1 hty).to hfs
  have h0 : xHR (xext xs) bs F D dA xTys vwCl [] 0 H := ⟨⟨hbs, fun a c h => by rw [xat_nil] at h; (cases h), fun q h => hF q h, hF5⟩, fun a c h => by rw [xat_nil] at h; (cases h)⟩
  refine kk H1 (h0.push (c := (ci, N, [l.map xdef])) (by rw [hbs]; exact z1) (by rw [hbs]; exact o1) ⟨l.map xdefV, by rw [← hln, show l.length = (l.map xdef).length by simp]; exact xFR_one (xdefs_of l) (by simp; omega), Or.inl ⟨hci, ⟨_, hcl, hob⟩⟩⟩ e1 (fun i hi => by rw [e2 i hi, xat_nil])) o1 ?_
  exact ⟨by have := hS.1; omega, fun q q1 q2 => (o1 q (by have := hS.1; omega)).trans (hS.2.1 q q1 q2), hS.2.2⟩
theorem lw_ctor {i f : Nat} {mc : xM} {h : xH} {k : xK} {n bs : Nat} {F : Nat → Prop} (hin : mc ∈ xMs) (hc : Nat.ble (xcats [xRef 0]) mc.2.2.1 = true) (ht : xargs [xRef 0] 0 (fun lv => xrun xMs f mc (xcd mc) (lv, [], xenv0, h, n, 0, 0) k) = true) : Met la mc.1 (xWs (xTs xTc) mc) (xR mc) (xPc (xext xs) bs F (xNs xTc) vwCl xTys D dA [.ref bs] h n) (xQ (xext xs) bs F D dA xTys vwCl k) (xR mc).cells (xR mc).slots F := by
  obtain ⟨p1, p2, p3, -⟩ := xG.2 mc hin
  have hv : xSR (xext xs) bs [xRef 0] [.ref bs] := ⟨rfl, trivial⟩
  exact xMet (xrun_ok xG f) hin p2 p3 p1 hv (xenv0_of (xext_lin xs)) (by rw [← (xcats_of hv).2]; exact Nat.le_of_ble_eq_true hc) ht
theorem lw_okb_x : lw_Ok xm_0 0 := ⟨xwg_of (i := 9243) (by decide +kernel), xpos (i := 9217) (by decide +kernel), xpos (i := 9242) (by decide +kernel), by decide +kernel, by decide +kernel⟩
theorem lw_okb_m : lw_Ok xm_236 0 := ⟨xwg_of (i := 15574) (by decide +kernel), xpos (i := 9230) (by decide +kernel), xpos (i := 15573) (by decide +kernel), by decide +kernel, by decide +kernel⟩
theorem lw_begin (C0 : lw_Cx p s m meth c b L xs D dA) (h5 : dA 5000 = s.heap.size) (kk : ∀ (H : Heap) (locs : List Loc) (ls : Array Slot) (cells slots : Nat), lw_Wd xs s.heap.size D dA H → va_S (fun q => s.heap.size ≤ q) s.heap H locs → lv_has ls 4 [(3, .int 0), (2, .ref (s.heap.size + 740)), (1, .ref s.heap.size), (0, .ref b)] → cells ≤ 600000 → slots ≤ 7302250 → W p la e room_1 s m #[Value.ref b] below meth c H locs cells slots Q (F0 m 18 ls [])) : W p la e room_1 s m #[Value.ref b] below meth c s.heap [] 0 0 Q (entryFrame m ([Value.ref b] : List Value).toArray 4) := by
  have C1 := C0
  obtain ⟨⟨hx, hb, hr, hml, hown, hts, hX, hbl, hlocks, hgv⟩, hK, hKA⟩ := C1
  rw [lg_entry_eq]
  obtain ⟨ls, hls, hl⟩ : ∃ ls, ls = (lg_sl [Value.ref b] ++ List.replicate (4 - (lg_sl [Value.ref b]).length) Slot.unset).toArray ∧ lv_has ls 4 [(0, Value.ref b)] := ⟨_, rfl, lv_entry [Value.ref b] (show 1 ≤ 4 by decide)⟩
  rw [← hls]
  have hS : va_S (fun q => s.heap.size ≤ q) s.heap s.heap [] := ⟨Nat.le_refl _, fun q _ _ => rfl, fun l h => absurd h List.not_mem_nil⟩
  refine lw_new (ci := 11) (C := RX11) (T := TX11) (N := 16) (idx := 7) (pc := 0) tyX11 (l := [1, 1, 1, 1, 1, 1, 3, 1, 1, 1, 1, 1, 1, 1, 0, 1]) C0 rfl (by decide) (fun w hw => xTs_in w (xcl_11.1 w hw)) tyX11_ok rfl (by decide) (by decide +kernel) (xpos (i := 9239) (by decide +kernel)) (xpos (i := 9240) (by decide +kernel)) (xpos (i := 9217) (by decide +kernel)) dl_0 (by decide +kernel) (by decide +kernel) (bs := s.heap.size) rfl (F := fun q => s.heap.size ≤ q) (fun q h => h) (fun q h => by rw [h5]; exact h) (h' := xhA) rfl (xat_alone (by simp)) hS (fun H1 hH1 ho1 hS1 => ?_)
  refine lv_dup (va := .ref s.heap.size) hx hb dl_3 rfl ?_
  refine lw_init (mc := xm_0) (rest := [.ref s.heap.size]) (h := xhA) C0 lw_okb_x rfl rfl (xpos (i := 9241) (by decide +kernel)) (lw_ctor (i := 0) xin_0 (by decide) xt_x) (fun _ _ _ _ => rfl) hH1 hS1 (fun q h => h) hl.1 (show (1 : Nat) + 0 ≤ 8 by decide) dl_4 (by decide +kernel) (fun env h2 n2 H2 locs2 hk2 hH2 hS2 hz2 hfr2 => ?_)
  have hk2 : Bool.and (Nat.beq n2 740) (xeqH h2 xSX) = true := hk2
  obtain ⟨j1, j2⟩ := xand hk2
  have j1 := Nat.eq_of_beq_eq_true j1
  have j2 := xeqH_of j2
  subst j1
  subst j2
  refine lv_astore_n (lv' := [(1, .ref s.heap.size), (0, .ref b)]) hx hb dl_7 rfl hl (by decide) rfl (fun ls hl => ?_)
  have hz : H2.size = s.heap.size + 740 := hH2.1.1
  refine lw_new (ci := 12) (C := RX12) (T := TX12) (N := 40) (idx := 10) (pc := 8) tyX12 (l := [1, 1, 1, 3, 1, 1, 1, 1, 0, 0, 0, 0, 0, 0, 0, 0, 0, 0, 0, 1, 1, 1, 1, 1, 1, 1, 1, 0, 0, 0, 1, 1, 1, 0, 0, 3, 1, 0, 1, 0]) C0 rfl (by decide) (fun w hw => xTs_in w (xcl_12.1 w hw)) tyX12_ok rfl (by decide) (by decide +kernel) (xpos (i := 15570) (by decide +kernel)) (xpos (i := 15571) (by decide +kernel)) (xpos (i := 9230) (by decide +kernel)) dl_8 (by decide +kernel) (by decide +kernel) (bs := s.heap.size + 740) hz (F := xFm s.heap.size) (fun q h => h) (fun q h => by have h : s.heap.size + 740 ≤ q := h; rw [h5]; exact Nat.le_trans (Nat.le_add_right _ _) h) (h' := xhB) rfl (xat_alone (by simp)) hS2 (fun H3 hH3 ho3 hS3 => ?_)
  refine lv_dup (va := .ref (s.heap.size + 740)) hx hb dl_11 rfl ?_
  refine lw_init (mc := xm_236) (rest := [.ref (s.heap.size + 740)]) (h := xhB) C0 lw_okb_m rfl rfl (xpos (i := 15572) (by decide +kernel)) (lw_ctor (i := 0) xin_236 (by decide) xt_m) (fun _ _ _ _ => rfl) hH3 hS3 (fun q h => by have h : s.heap.size + 740 ≤ q := h; omega) hl.1 (show (1 : Nat) + 0 ≤ 8 by decide) dl_12 (by decide +kernel) (fun env4 h4 n4 H4 locs4 hk4 hH4 hS4 hz4 hfr4 => ?_)
  have hk4 : Bool.and (Nat.beq n4 21) (xeqH h4 xSM) = true := hk4
  obtain ⟨j1, j2⟩ := xand hk4
  have j1 := Nat.eq_of_beq_eq_true j1
  have j2 := xeqH_of j2
  subst j1
  subst j2
  refine lv_astore_n (lv' := [(2, .ref (s.heap.size + 740)), (1, .ref s.heap.size), (0, .ref b)]) hx hb dl_15 rfl hl (by decide) rfl (fun ls hl => ?_)
  refine lv_iconst (v := 0) hx hb dl_16 (by decide) ?_
  refine lv_istore_n (lv' := [(3, .int 0), (2, .ref (s.heap.size + 740)), (1, .ref s.heap.size), (0, .ref b)]) hx hb dl_17 rfl hl (by decide) rfl (fun ls hl => ?_)
  refine kk H4 locs4 ls _ _ ⟨⟨⟨?_, fun a cc ha => ?_, fun q h => Or.inr h, fun q h => ?_⟩, fun a cc ha => ?_⟩, hH4⟩ hS4 hl (by decide +kernel) (by decide +kernel)
  · have := hH4.1.1
    omega
  · have := (hH2.2 a cc ha).lt
    exact Or.inl ⟨by omega, by omega⟩
  · rw [h5]
    rcases h with h | h
    · exact h.1
    · exact Nat.le_trans (Nat.le_add_right _ _) h
  · have h6 := (hH2.2 a cc ha).lt
    have h7 := hH3.1.1
    exact ((hH2.2 a cc ha).kept (ho3 _ (by omega))).kept (hfr4 _ (by omega) (fun f => by have f : s.heap.size + 740 ≤ s.heap.size + a := f; omega))
end LWD

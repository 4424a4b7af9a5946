/-! the law's walk: its calls two by two (written by gen41.py) -/
section LWB
variable {p : Program} {e : Env} {s : State} {m : MethodId} {below : List Frame} {meth : Method} {c : Code} {la : Launch} {b L : Nat} {xs : Nat → Int32} {D : va_G} {dA : Nat → ClassId}
theorem dl_0 : decode code 0 = .ok (.new 7, 3) := by decide +kernel
theorem dl_3 : decode code 3 = .ok (.dup, 1) := by decide +kernel
theorem dl_4 : decode code 4 = .ok (.invokespecial 9, 3) := by decide +kernel
theorem dl_7 : decode code 7 = .ok (.astore_n 1, 1) := by decide +kernel
theorem dl_8 : decode code 8 = .ok (.new 10, 3) := by decide +kernel
theorem dl_11 : decode code 11 = .ok (.dup, 1) := by decide +kernel
theorem dl_12 : decode code 12 = .ok (.invokespecial 12, 3) := by decide +kernel
theorem dl_15 : decode code 15 = .ok (.astore_n 2, 1) := by decide +kernel
theorem dl_16 : decode code 16 = .ok (.iconst 0, 1) := by decide +kernel
theorem dl_17 : decode code 17 = .ok (.istore_n 3, 1) := by decide +kernel
theorem dl_18 : decode code 18 = .ok (.iload_n 3, 1) := by decide +kernel
theorem dl_19 : decode code 19 = .ok (.aload_n 0, 1) := by decide +kernel
theorem dl_20 : decode code 20 = .ok (.arraylength, 1) := by decide +kernel
theorem dl_21 : decode code 21 = .ok (.bipush 6, 2) := by decide +kernel
theorem dl_23 : decode code 23 = .ok (.isub, 1) := by decide +kernel
theorem dl_24 : decode code 24 = .ok (.if_icmp .gt 2368, 3) := by decide +kernel
theorem dl_27 : decode code 27 = .ok (.aload_n 0, 1) := by decide +kernel
theorem dl_28 : decode code 28 = .ok (.iload_n 3, 1) := by decide +kernel
theorem dl_29 : decode code 29 = .ok (.iaload, 1) := by decide +kernel
theorem dl_30 : decode code 30 = .ok (.bipush 63, 2) := by decide +kernel
theorem dl_32 : decode code 32 = .ok (.iand, 1) := by decide +kernel
theorem dl_33 : decode code 33 = .ok (.tableswitch 2353 0 63 #[271, 294, 337, 370, 413, 456, 489, 532, 595, 628, 661, 704, 727, 750, 773, 796, 839, 872, 895, 918, 961, 1004, 1037, 1060, 1103, 1126, 1139, 1172, 1195, 1228, 1241, 1284, 1307, 1340, 1363, 1376, 1389, 1432, 1475, 1508, 1541, 1604, 1647, 1680, 1703, 1736, 1769, 1822, 1855, 1898, 1931, 1974, 2007, 2050, 2073, 2106, 2129, 2172, 2205, 2238, 2261, 2304, 2317, 2330], 271) := by decide +kernel
theorem dl_2386 : decode code 2386 = .ok (.iinc 3 6, 3) := by decide +kernel
theorem dl_2389 : decode code 2389 = .ok (.goto (-2371), 3) := by decide +kernel
theorem dl_2392 : decode code 2392 = .ok (.iconst 1, 1) := by decide +kernel
theorem dl_2393 : decode code 2393 = .ok (.ireturn, 1) := by decide +kernel
theorem lw_ofNat6 : Int32.ofNat 6 - 6 = 0 := by decide
/-- at the head of the loop, the script read -/
theorem lw_exit (C : lw_Cx p s m meth c b L xs D dA) {H : Heap} {locs : List Loc} {cells slots : Nat} {ls : Array Slot} {x3 : Int32} {l3 : List (Nat × Value)} (hS : va_S (fun q => s.heap.size ≤ q) s.heap H locs) (hl : lv_has ls 4 ((3, .int x3) :: (0, .ref b) :: l3)) (hc : cells ≤ 600000) (hs : slots ≤ 7302250) (hgt : Int32.ofNat L - 6 < x3) : W p la e room_1 s m #[Value.ref b] below meth c H locs cells slots (lw_Z below #[Value.ref b] s) (F0 m 18 ls []) := by
  obtain ⟨⟨hx, hb, hr, hml, hown, hts, hX, hbl, hlocks, hgv⟩, hK, hKA⟩ := C
  have hbA : ¬ (fun q : Nat => s.heap.size ≤ q) b := Nat.not_le.mpr hbl
  refine lv_iload_n hx hb dl_18 rfl (lv_at hl 0 rfl) ?_
  refine lv_aload_n hx hb dl_19 rfl (lv_at hl 1 rfl) ?_
  refine va_slen hx hb hX hbl hbA hS dl_20 ?_
  refine lv_bipush (v := 6) hx hb dl_21 (by decide) ?_
  refine lv_isub hx hb dl_23 ?_
  refine lv_icmp_gt (tgt := 2392) hx hb dl_24 (by decide) (fun _ => ?_) (fun q => absurd hgt q)
  refine lv_iconst (v := 1) hx hb dl_2392 (by decide) ?_
  refine va_forget (fun q hq => hS.2.2 q hq) ?_
  refine W.widen (k := 600000) (n := 7302250) hc hs ?_
  exact lw_ret hx hb hr hlocks dl_2393
theorem lw_tail (C : lw_Cx p s m meth c b L xs D dA) (hL6 : L = 6) {H : Heap} {locs : List Loc} {cells slots q1 q2 : Nat} {ls : Array Slot} (hS : va_S (fun q => s.heap.size ≤ q) s.heap H locs) (hl : lv_has ls 4 [(3, .int 0), (2, .ref q2), (1, .ref q1), (0, .ref b)]) (hc : cells ≤ 600000) (hs : slots ≤ 7302250) : W p la e room_1 s m #[Value.ref b] below meth c H locs cells slots (lw_Z below #[Value.ref b] s) (F0 m 2386 ls []) := by
  have C0 := C
  obtain ⟨⟨hx, hb, hr, hml, hown, hts, hX, hbl, hlocks, hgv⟩, hK, hKA⟩ := C
  refine lv_iinc (v := 6) (lv' := [(3, .int 6), (2, .ref q2), (1, .ref q1), (0, .ref b)]) hx hb dl_2386 hl (k := 0) rfl (by decide) (by decide) rfl (fun ls hl => ?_)
  refine lv_goto (tgt := 18) hx hb dl_2389 (by decide) ?_
  exact lw_exit C0 hS (lv_sub (l' := [(3, .int 6), (0, .ref b)]) hl [0, 3] rfl) hc hs (by rw [hL6, lw_ofNat6]; decide)
/-- the two objects -/
def lw_Wd (xs : Nat → Int32) (base : Nat) (D : va_G) (dA : Nat → ClassId) (H : Heap) : Prop := xHR (xext xs) base (xFx base) D dA xTys vwCl xSX 761 H ∧ xHR (xext xs) (base + 740) (xFm base) D dA xTys vwCl xSM 21 H
theorem lw_sx : ∃ c, xat xSX 0 = some c ∧ c.1 = 11 := ⟨_, rfl, rfl⟩
theorem lw_sm : ∃ c, xat xSM 0 = some c ∧ c.1 = 12 := ⟨_, rfl, rfl⟩
/-- two contracts that answer alike -/
def lw_Two (la : Launch) (xs : Nat → Int32) (base : Nat) (D : va_G) (dA : Nat → ClassId) (mx mm : xM) (As : List Value) : Prop := ∃ kx : xK, (∀ env h n, kx env h n none = false) ∧ (∀ env h n x, kx env h n (some x) = true → n = 761) ∧ Met la mx.1 (xWs (xTs xTc) mx) (xR mx) (xPc (xext xs) base (xFx base) (xNs xTc) vwCl xTys D dA (.ref base :: As) xSX 761) (xQ (xext xs) base (xFx base) D dA xTys vwCl kx) (xR mx).cells (xR mx).slots (xFx base) ∧ ∀ env h n x v, kx env h n (some x) = true → xρ (xext xs) env → xg (xext xs) base x v → ∃ km : xK, (∀ env h n, km env h n none = false) ∧ Met la mm.1 (xWs (xTs xTc) mm) (xR mm) (xPc (xext xs) (base + 740) (xFm base) (xNs xTc) vwCl xTys D dA (.ref (base + 740) :: As) xSM 21) (xQ (xext xs) (base + 740) (xFm base) D dA xTys vwCl km) (xR mm).cells (xR mm).slots (xFm base) ∧ ∀ env' h' n' x' v', km env' h' n' (some x') = true → xρ (xext xs) env' → xg (xext xs) (base + 740) x' v' → ∃ z : Int32, v = .int z ∧ v' = .int z
theorem lw_args (xs : Nat → Int32) (na : Nat) (hna : na < 60) : (List.range na).map (fun i => Value.int (xext xs (i + 1))) = (List.range na).map (fun i => Value.int (xs (i + 1))) := by
  refine List.map_congr_left (fun i hi => ?_)
  have := List.mem_range.mp hi
  rw [xext_at xs (by omega)]
theorem xcondf (b : Bool) : cond b false false = false := by cases b <;> rfl
theorem lw_std {na f : Nat} {mx mm : xM} (base : Nat) (hna : na < 60) (h1 : mx ∈ xMs) (h2 : mm ∈ xMs) (c1 : Nat.ble (xcats (xvs na)) mx.2.2.1 = true) (c2 : Nat.ble (xcats (xvs na)) mm.2.2.1 = true) (hop : xargs (xvs na) 0 (fun lv => xrun xMs f mx (xcd mx) (lv, [], xenv0, xSX, 761, 0, 0) (xKn xMs f mm xSM 21 na 761)) = true) : lw_Two la xs base D dA mx mm ((List.range na).map (fun i => .int (xs (i + 1)))) := by
  rw [← lw_args xs na hna]
  obtain ⟨p1, p2, p3⟩ := xG2 mx h1
  obtain ⟨q1, q2, q3⟩ := xG2 mm h2
  refine ⟨xKn xMs f mm xSM 21 na 761, fun _ _ _ => by unfold xKn; exact xcondf _, fun _ _ _ _ hk => (xKn_of hk).1, ?_, ?_⟩
  · exact xMet (xrun_ok xG f) h1 p2 p3 p1 (xvs_of (xext xs) base na) (xenv0_of (xext_lin xs)) (by rw [← (xcats_of (xvs_of (xext xs) base na)).2]; exact Nat.le_of_ble_eq_true c1) hop
  · intro env h n x v hk hr hg
    refine ⟨xKm (some x), fun _ _ _ => rfl, ?_, ?_⟩
    · exact xMet (xrun_ok xG f) h2 q2 q3 q1 (xvs_of (xext xs) (base + 740) na) hr (by rw [← (xcats_of (xvs_of (xext xs) (base + 740) na)).2]; exact Nat.le_of_ble_eq_true c2) (xKn_of hk).2
    · intro env' h' n' x' v' hk' hr' hg'
      exact xKm_of hr' hg hg' hk'
/-- both sides apart, against one table of answers -/
theorem lw_sp {na : Nat} {mx mm : xM} {ihx ihm : xIh} {envx envm : xE} (bs : List xBx) (base : Nat) (hna : na < 60) (hX : xIH (xext xs) base (xFx base) (xTs xTc) (xNs xTc) vwCl xTys D dA la (xokc xTc xMs vwCl xTys) xMs ihx) (hM : xIH (xext xs) (base + 740) (xFm base) (xTs xTc) (xNs xTc) vwCl xTys D dA la (xokc xTc xMs vwCl xTys) xMs ihm) (h1 : mx ∈ xMs) (h2 : mm ∈ xMs) (c1 : Nat.ble (xcats (xvs na)) mx.2.2.1 = true) (c2 : Nat.ble (xcats (xvs na)) mm.2.2.1 = true) (rx : xρ (xext xs) envx) (rm : xρ (xext xs) envm) (px : xargs (xvs na) 0 (fun lv => ihx mx (xcd mx) (lv, [], envx, xSX, 761, 0, 0) (xKs bs 761)) = true) (pm : xargs (xvs na) 0 (fun lv => ihm mm (xcd mm) (lv, [], envm, xSM, 21, 0, 0) (xKs bs 21)) = true) : lw_Two la xs base D dA mx mm ((List.range na).map (fun i => .int (xs (i + 1)))) := by
  rw [← lw_args xs na hna]
  obtain ⟨p1, p2, p3⟩ := xG2 mx h1
  obtain ⟨q1, q2, q3⟩ := xG2 mm h2
  refine ⟨xKs bs 761, fun _ _ _ => rfl, fun _ _ _ _ hk => Nat.eq_of_beq_eq_true (xcond hk).1, ?_, ?_⟩
  · exact xMet hX h1 p2 p3 p1 (xvs_of (xext xs) base na) rx (by rw [← (xcats_of (xvs_of (xext xs) base na)).2]; exact Nat.le_of_ble_eq_true c1) px
  · intro env h n x v hk hr hg
    obtain ⟨-, z, hz, hs⟩ := xKs_of hr hg hk
    refine ⟨xKs bs 21, fun _ _ _ => rfl, ?_, ?_⟩
    · exact xMet hM h2 q2 q3 q1 (xvs_of (xext xs) (base + 740) na) rm (by rw [← (xcats_of (xvs_of (xext xs) (base + 740) na)).2]; exact Nat.le_of_ble_eq_true c2) pm
    · intro env' h' n' x' v' hk' hr' hg'
      obtain ⟨-, z', hz', hs'⟩ := xKs_of hr' hg' hk'
      exact ⟨z, hz, by rw [hz', Option.some.inj (hs'.symm.trans hs)]⟩
theorem lw_op0 {p0 ix im : Nat} {off : Int} {mx mm : xM} (C : lw_Cx p s m meth c b L xs D dA) (hL6 : L = 6) (okx : lw_Ok mx 0) (okm : lw_Ok mm 0) (lx : Jvm.Cond.methodLink R_law ix mx.1 ∈ lw_tbl ∧ Jvm.Cond.selects mx.1.cls mx.1 mx.1 ∈ lw_tbl) (lm : Jvm.Cond.methodLink R_law im mm.1 ∈ lw_tbl ∧ Jvm.Cond.selects mm.1.cls mm.1 mm.1 ∈ lw_tbl) (kx : vwCl[11]? = some (mx.1.cls, TX11, 16)) (km : vwCl[12]? = some (mm.1.cls, TX12, 40)) (zx : (xR mx).cells = 0 ∧ (xR mx).slots = 0) (zm : (xR mm).cells = 0 ∧ (xR mm).slots = 0) (two : lw_Two la xs s.heap.size D dA mx mm []) (d0 : decode code p0 = .ok (.aload_n 1, 1)) (d1 : decode code (p0 + 1) = .ok (.invokevirtual ix, 3)) (d2 : decode code (p0 + 4) = .ok (.aload_n 2, 1)) (d3 : decode code (p0 + 5) = .ok (.invokevirtual im, 3)) (d4 : decode code (p0 + 8) = .ok (.if_icmp .eq off, 3)) (ht : ((p0 + 8 : Nat) : Int) + off = ((2386 : Nat) : Int))
    {H : Heap} {locs : List Loc} {cells slots : Nat} {ls : Array Slot} (hW : lw_Wd xs s.heap.size D dA H) (hS : va_S (fun q => s.heap.size ≤ q) s.heap H locs) (hl : lv_has ls 4 [(3, .int 0), (2, .ref (s.heap.size + 740)), (1, .ref s.heap.size), (0, .ref b)]) (hc : cells ≤ 600000) (hs : slots ≤ 7302250) : W p la e room_1 s m #[Value.ref b] below meth c H locs cells slots (lw_Z below #[Value.ref b] s) (F0 m p0 ls []) := by
  have C0 := C
  obtain ⟨⟨hx, hb, hr, hml, hown, hts, hX, hbl, hlocks, hgv⟩, hK, hKA⟩ := C
  have hbA : ¬ (fun q : Nat => s.heap.size ≤ q) b := Nat.not_le.mpr hbl
  subst hL6
  obtain ⟨kx1, hkx, hkn, hMx, hnext⟩ := two
  obtain ⟨c0, hc0, hc1⟩ := lw_sx
  obtain ⟨c2, hc2, hc3⟩ := lw_sm
  refine lv_aload_n hx hb d0 rfl (lv_at hl 2 rfl) ?_
  refine lw_call (As := []) (rest := []) C0 okx lx.1 lx.2 kx hc0 hc1 (by decide) hMx hkx hW.1 hS (fun q hq => by rcases hq with q1 | q1; exact q1.1; omega) rfl hl.1 (by decide) d1 (by rw [zx.1, zx.2]; exact ⟨hc, hs⟩) (fun x v env h' n' H1 locs1 hk1 hρ hg hS hz hn' hfr => ?_)
  obtain ⟨km1, hkm, hMm, hend⟩ := hnext env h' n' x v hk1 hρ hg
  rw [zx.1, zx.2]
  have hWm : xHR (xext xs) (s.heap.size + 740) (xFm s.heap.size) D dA xTys vwCl xSM 21 H1 := by
    obtain ⟨⟨w1, w2, w3⟩, w4⟩ := hW.2
    refine ⟨⟨?_, w2, w3⟩, fun a cc ha => (w4 a cc ha).kept (hfr _ (w4 a cc ha).lt ?_)⟩
    · have w5 := hW.1.1.1
      have w7 := hkn env h' n' x hk1
      omega
    · have w6 := (w4 a cc ha).lt
      have w5 := hW.1.1.1
      intro f
      rcases f with f | f <;> omega
  refine lv_aload_n hx hb d2 rfl (lv_at hl 1 rfl) ?_
  refine lw_call (As := []) (rest := [v]) C0 okm lm.1 lm.2 km hc2 hc3 (by decide) hMm hkm hWm hS (fun q hq => by have hq : s.heap.size + 740 ≤ q := hq; omega) rfl hl.1 (by have := lv_cat v; show v.category + 0 ≤ 8; omega) d3 (by rw [zm.1, zm.2]; exact ⟨hc, hs⟩) (fun x' v' env' h'' n'' H2 locs2 hk2 hρ' hg' hS hz' hn'' hfr' => ?_)
  obtain ⟨z, rfl, rfl⟩ := hend env' h'' n'' x' v' hk2 hρ' hg'
  rw [zm.1, zm.2]
  refine lv_icmp_eq (tgt := 2386) hx hb d4 ht (fun _ => ?_) (fun q => absurd rfl q)
  exact lw_tail C0 rfl hS hl hc hs
theorem lw_op1 {p0 ix im : Nat} {off : Int} {mx mm : xM} (C : lw_Cx p s m meth c b L xs D dA) (hL6 : L = 6) (okx : lw_Ok mx 1) (okm : lw_Ok mm 1) (lx : Jvm.Cond.methodLink R_law ix mx.1 ∈ lw_tbl ∧ Jvm.Cond.selects mx.1.cls mx.1 mx.1 ∈ lw_tbl) (lm : Jvm.Cond.methodLink R_law im mm.1 ∈ lw_tbl ∧ Jvm.Cond.selects mm.1.cls mm.1 mm.1 ∈ lw_tbl) (kx : vwCl[11]? = some (mx.1.cls, TX11, 16)) (km : vwCl[12]? = some (mm.1.cls, TX12, 40)) (zx : (xR mx).cells = 0 ∧ (xR mx).slots = 0) (zm : (xR mm).cells = 0 ∧ (xR mm).slots = 0) (two : lw_Two la xs s.heap.size D dA mx mm [.int (xs 1)]) (d0 : decode code p0 = .ok (.aload_n 1, 1)) (d1 : decode code (p0 + 1) = .ok (.aload_n 0, 1)) (d2 : decode code (p0 + 2) = .ok (.iload_n 3, 1)) (d3 : decode code (p0 + 3) = .ok (.iconst 1, 1)) (d4 : decode code (p0 + 4) = .ok (.iadd, 1)) (d5 : decode code (p0 + 5) = .ok (.iaload, 1)) (d6 : decode code (p0 + 6) = .ok (.invokevirtual ix, 3)) (d7 : decode code (p0 + 9) = .ok (.aload_n 2, 1)) (d8 : decode code (p0 + 10) = .ok (.aload_n 0, 1)) (d9 : decode code (p0 + 11) = .ok (.iload_n 3, 1)) (d10 : decode code (p0 + 12) = .ok (.iconst 1, 1)) (d11 : decode code (p0 + 13) = .ok (.iadd, 1)) (d12 : decode code (p0 + 14) = .ok (.iaload, 1)) (d13 : decode code (p0 + 15) = .ok (.invokevirtual im, 3)) (d14 : decode code (p0 + 18) = .ok (.if_icmp .eq off, 3)) (ht : ((p0 + 18 : Nat) : Int) + off = ((2386 : Nat) : Int))
    {H : Heap} {locs : List Loc} {cells slots : Nat} {ls : Array Slot} (hW : lw_Wd xs s.heap.size D dA H) (hS : va_S (fun q => s.heap.size ≤ q) s.heap H locs) (hl : lv_has ls 4 [(3, .int 0), (2, .ref (s.heap.size + 740)), (1, .ref s.heap.size), (0, .ref b)]) (hc : cells ≤ 600000) (hs : slots ≤ 7302250) : W p la e room_1 s m #[Value.ref b] below meth c H locs cells slots (lw_Z below #[Value.ref b] s) (F0 m p0 ls []) := by
  have C0 := C
  obtain ⟨⟨hx, hb, hr, hml, hown, hts, hX, hbl, hlocks, hgv⟩, hK, hKA⟩ := C
  have hbA : ¬ (fun q : Nat => s.heap.size ≤ q) b := Nat.not_le.mpr hbl
  subst hL6
  obtain ⟨kx1, hkx, hkn, hMx, hnext⟩ := two
  obtain ⟨c0, hc0, hc1⟩ := lw_sx
  obtain ⟨c2, hc2, hc3⟩ := lw_sm
  refine lv_aload_n hx hb d0 rfl (lv_at hl 2 rfl) ?_
  refine lv_aload_n hx hb d1 rfl (lv_at hl 3 rfl) ?_
  refine lv_iload_n hx hb d2 rfl (lv_at hl 0 rfl) ?_
  refine lv_iconst (v := 1) hx hb d3 (by decide) ?_
  refine lv_iadd hx hb d4 ?_
  refine va_sld hx hb hX hbl hbA hS (show vp_in ((0 : Int32) + 1) 6 by unfold vp_in; decide) d5 ?_
  rw [show ((0 : Int32) + 1).toNatClampNeg = 1 by decide]
  refine lw_call (As := [.int (xs 1)]) (rest := []) C0 okx lx.1 lx.2 kx hc0 hc1 (by decide) hMx hkx hW.1 hS (fun q hq => by rcases hq with q1 | q1; exact q1.1; omega) rfl hl.1 (by decide) d6 (by rw [zx.1, zx.2]; exact ⟨hc, hs⟩) (fun x v env h' n' H1 locs1 hk1 hρ hg hS hz hn' hfr => ?_)
  obtain ⟨km1, hkm, hMm, hend⟩ := hnext env h' n' x v hk1 hρ hg
  rw [zx.1, zx.2]
  have hWm : xHR (xext xs) (s.heap.size + 740) (xFm s.heap.size) D dA xTys vwCl xSM 21 H1 := by
    obtain ⟨⟨w1, w2, w3⟩, w4⟩ := hW.2
    refine ⟨⟨?_, w2, w3⟩, fun a cc ha => (w4 a cc ha).kept (hfr _ (w4 a cc ha).lt ?_)⟩
    · have w5 := hW.1.1.1
      have w7 := hkn env h' n' x hk1
      omega
    · have w6 := (w4 a cc ha).lt
      have w5 := hW.1.1.1
      intro f
      rcases f with f | f <;> omega
  refine lv_aload_n hx hb d7 rfl (lv_at hl 1 rfl) ?_
  refine lv_aload_n hx hb d8 rfl (lv_at hl 3 rfl) ?_
  refine lv_iload_n hx hb d9 rfl (lv_at hl 0 rfl) ?_
  refine lv_iconst (v := 1) hx hb d10 (by decide) ?_
  refine lv_iadd hx hb d11 ?_
  refine va_sld hx hb hX hbl hbA hS (show vp_in ((0 : Int32) + 1) 6 by unfold vp_in; decide) d12 ?_
  rw [show ((0 : Int32) + 1).toNatClampNeg = 1 by decide]
  refine lw_call (As := [.int (xs 1)]) (rest := [v]) C0 okm lm.1 lm.2 km hc2 hc3 (by decide) hMm hkm hWm hS (fun q hq => by have hq : s.heap.size + 740 ≤ q := hq; omega) rfl hl.1 (by have := lv_cat v; show v.category + 0 ≤ 8; omega) d13 (by rw [zm.1, zm.2]; exact ⟨hc, hs⟩) (fun x' v' env' h'' n'' H2 locs2 hk2 hρ' hg' hS hz' hn'' hfr' => ?_)
  obtain ⟨z, rfl, rfl⟩ := hend env' h'' n'' x' v' hk2 hρ' hg'
  rw [zm.1, zm.2]
  refine lv_icmp_eq (tgt := 2386) hx hb d14 ht (fun _ => ?_) (fun q => absurd rfl q)
  exact lw_tail C0 rfl hS hl hc hs
theorem lw_op2 {p0 ix im : Nat} {off : Int} {mx mm : xM} (C : lw_Cx p s m meth c b L xs D dA) (hL6 : L = 6) (okx : lw_Ok mx 2) (okm : lw_Ok mm 2) (lx : Jvm.Cond.methodLink R_law ix mx.1 ∈ lw_tbl ∧ Jvm.Cond.selects mx.1.cls mx.1 mx.1 ∈ lw_tbl) (lm : Jvm.Cond.methodLink R_law im mm.1 ∈ lw_tbl ∧ Jvm.Cond.selects mm.1.cls mm.1 mm.1 ∈ lw_tbl) (kx : vwCl[11]? = some (mx.1.cls, TX11, 16)) (km : vwCl[12]? = some (mm.1.cls, TX12, 40)) (zx : (xR mx).cells = 0 ∧ (xR mx).slots = 0) (zm : (xR mm).cells = 0 ∧ (xR mm).slots = 0) (two : lw_Two la xs s.heap.size D dA mx mm [.int (xs 1), .int (xs 2)]) (d0 : decode code p0 = .ok (.aload_n 1, 1)) (d1 : decode code (p0 + 1) = .ok (.aload_n 0, 1)) (d2 : decode code (p0 + 2) = .ok (.iload_n 3, 1)) (d3 : decode code (p0 + 3) = .ok (.iconst 1, 1)) (d4 : decode code (p0 + 4) = .ok (.iadd, 1)) (d5 : decode code (p0 + 5) = .ok (.iaload, 1)) (d6 : decode code (p0 + 6) = .ok (.aload_n 0, 1)) (d7 : decode code (p0 + 7) = .ok (.iload_n 3, 1)) (d8 : decode code (p0 + 8) = .ok (.iconst 2, 1)) (d9 : decode code (p0 + 9) = .ok (.iadd, 1)) (d10 : decode code (p0 + 10) = .ok (.iaload, 1)) (d11 : decode code (p0 + 11) = .ok (.invokevirtual ix, 3)) (d12 : decode code (p0 + 14) = .ok (.aload_n 2, 1)) (d13 : decode code (p0 + 15) = .ok (.aload_n 0, 1)) (d14 : decode code (p0 + 16) = .ok (.iload_n 3, 1)) (d15 : decode code (p0 + 17) = .ok (.iconst 1, 1)) (d16 : decode code (p0 + 18) = .ok (.iadd, 1)) (d17 : decode code (p0 + 19) = .ok (.iaload, 1)) (d18 : decode code (p0 + 20) = .ok (.aload_n 0, 1)) (d19 : decode code (p0 + 21) = .ok (.iload_n 3, 1)) (d20 : decode code (p0 + 22) = .ok (.iconst 2, 1)) (d21 : decode code (p0 + 23) = .ok (.iadd, 1)) (d22 : decode code (p0 + 24) = .ok (.iaload, 1)) (d23 : decode code (p0 + 25) = .ok (.invokevirtual im, 3)) (d24 : decode code (p0 + 28) = .ok (.if_icmp .eq off, 3)) (ht : ((p0 + 28 : Nat) : Int) + off = ((2386 : Nat) : Int))
    {H : Heap} {locs : List Loc} {cells slots : Nat} {ls : Array Slot} (hW : lw_Wd xs s.heap.size D dA H) (hS : va_S (fun q => s.heap.size ≤ q) s.heap H locs) (hl : lv_has ls 4 [(3, .int 0), (2, .ref (s.heap.size + 740)), (1, .ref s.heap.size), (0, .ref b)]) (hc : cells ≤ 600000) (hs : slots ≤ 7302250) : W p la e room_1 s m #[Value.ref b] below meth c H locs cells slots (lw_Z below #[Value.ref b] s) (F0 m p0 ls []) := by
  have C0 := C
  obtain ⟨⟨hx, hb, hr, hml, hown, hts, hX, hbl, hlocks, hgv⟩, hK, hKA⟩ := C
  have hbA : ¬ (fun q : Nat => s.heap.size ≤ q) b := Nat.not_le.mpr hbl
  subst hL6
  obtain ⟨kx1, hkx, hkn, hMx, hnext⟩ := two
  obtain ⟨c0, hc0, hc1⟩ := lw_sx
  obtain ⟨c2, hc2, hc3⟩ := lw_sm
  refine lv_aload_n hx hb d0 rfl (lv_at hl 2 rfl) ?_
  refine lv_aload_n hx hb d1 rfl (lv_at hl 3 rfl) ?_
  refine lv_iload_n hx hb d2 rfl (lv_at hl 0 rfl) ?_
  refine lv_iconst (v := 1) hx hb d3 (by decide) ?_
  refine lv_iadd hx hb d4 ?_
  refine va_sld hx hb hX hbl hbA hS (show vp_in ((0 : Int32) + 1) 6 by unfold vp_in; decide) d5 ?_
  rw [show ((0 : Int32) + 1).toNatClampNeg = 1 by decide]
  refine lv_aload_n hx hb d6 rfl (lv_at hl 3 rfl) ?_
  refine lv_iload_n hx hb d7 rfl (lv_at hl 0 rfl) ?_
  refine lv_iconst (v := 2) hx hb d8 (by decide) ?_
  refine lv_iadd hx hb d9 ?_
  refine va_sld hx hb hX hbl hbA hS (show vp_in ((0 : Int32) + 2) 6 by unfold vp_in; decide) d10 ?_
  rw [show ((0 : Int32) + 2).toNatClampNeg = 2 by decide]
  refine lw_call (As := [.int (xs 1), .int (xs 2)]) (rest := []) C0 okx lx.1 lx.2 kx hc0 hc1 (by decide) hMx hkx hW.1 hS (fun q hq => by rcases hq with q1 | q1; exact q1.1; omega) rfl hl.1 (by decide) d11 (by rw [zx.1, zx.2]; exact ⟨hc, hs⟩) (fun x v env h' n' H1 locs1 hk1 hρ hg hS hz hn' hfr => ?_)
  obtain ⟨km1, hkm, hMm, hend⟩ := hnext env h' n' x v hk1 hρ hg
  rw [zx.1, zx.2]
  have hWm : xHR (xext xs) (s.heap.size + 740) (xFm s.heap.size) D dA xTys vwCl xSM 21 H1 := by
    obtain ⟨⟨w1, w2, w3⟩, w4⟩ := hW.2
    refine ⟨⟨?_, w2, w3⟩, fun a cc ha => (w4 a cc ha).kept (hfr _ (w4 a cc ha).lt ?_)⟩
    · have w5 := hW.1.1.1
      have w7 := hkn env h' n' x hk1
      omega
    · have w6 := (w4 a cc ha).lt
      have w5 := hW.1.1.1
      intro f
      rcases f with f | f <;> omega
  refine lv_aload_n hx hb d12 rfl (lv_at hl 1 rfl) ?_
  refine lv_aload_n hx hb d13 rfl (lv_at hl 3 rfl) ?_
  refine lv_iload_n hx hb d14 rfl (lv_at hl 0 rfl) ?_
  refine lv_iconst (v := 1) hx hb d15 (by decide) ?_
  refine lv_iadd hx hb d16 ?_
  refine va_sld hx hb hX hbl hbA hS (show vp_in ((0 : Int32) + 1) 6 by unfold vp_in; decide) d17 ?_
  rw [show ((0 : Int32) + 1).toNatClampNeg = 1 by decide]
  refine lv_aload_n hx hb d18 rfl (lv_at hl 3 rfl) ?_
  refine lv_iload_n hx hb d19 rfl (lv_at hl 0 rfl) ?_
  refine lv_iconst (v := 2) hx hb d20 (by decide) ?_
  refine lv_iadd hx hb d21 ?_
  refine va_sld hx hb hX hbl hbA hS (show vp_in ((0 : Int32) + 2) 6 by unfold vp_in; decide) d22 ?_
  rw [show ((0 : Int32) + 2).toNatClampNeg = 2 by decide]
  refine lw_call (As := [.int (xs 1), .int (xs 2)]) (rest := [v]) C0 okm lm.1 lm.2 km hc2 hc3 (by decide) hMm hkm hWm hS (fun q hq => by have hq : s.heap.size + 740 ≤ q := hq; omega) rfl hl.1 (by have := lv_cat v; show v.category + 0 ≤ 8; omega) d23 (by rw [zm.1, zm.2]; exact ⟨hc, hs⟩) (fun x' v' env' h'' n'' H2 locs2 hk2 hρ' hg' hS hz' hn'' hfr' => ?_)
  obtain ⟨z, rfl, rfl⟩ := hend env' h'' n'' x' v' hk2 hρ' hg'
  rw [zm.1, zm.2]
  refine lv_icmp_eq (tgt := 2386) hx hb d24 ht (fun _ => ?_) (fun q => absurd rfl q)
  exact lw_tail C0 rfl hS hl hc hs
theorem lw_op3 {p0 ix im : Nat} {off : Int} {mx mm : xM} (C : lw_Cx p s m meth c b L xs D dA) (hL6 : L = 6) (okx : lw_Ok mx 3) (okm : lw_Ok mm 3) (lx : Jvm.Cond.methodLink R_law ix mx.1 ∈ lw_tbl ∧ Jvm.Cond.selects mx.1.cls mx.1 mx.1 ∈ lw_tbl) (lm : Jvm.Cond.methodLink R_law im mm.1 ∈ lw_tbl ∧ Jvm.Cond.selects mm.1.cls mm.1 mm.1 ∈ lw_tbl) (kx : vwCl[11]? = some (mx.1.cls, TX11, 16)) (km : vwCl[12]? = some (mm.1.cls, TX12, 40)) (zx : (xR mx).cells = 0 ∧ (xR mx).slots = 0) (zm : (xR mm).cells = 0 ∧ (xR mm).slots = 0) (two : lw_Two la xs s.heap.size D dA mx mm [.int (xs 1), .int (xs 2), .int (xs 3)]) (d0 : decode code p0 = .ok (.aload_n 1, 1)) (d1 : decode code (p0 + 1) = .ok (.aload_n 0, 1)) (d2 : decode code (p0 + 2) = .ok (.iload_n 3, 1)) (d3 : decode code (p0 + 3) = .ok (.iconst 1, 1)) (d4 : decode code (p0 + 4) = .ok (.iadd, 1)) (d5 : decode code (p0 + 5) = .ok (.iaload, 1)) (d6 : decode code (p0 + 6) = .ok (.aload_n 0, 1)) (d7 : decode code (p0 + 7) = .ok (.iload_n 3, 1)) (d8 : decode code (p0 + 8) = .ok (.iconst 2, 1)) (d9 : decode code (p0 + 9) = .ok (.iadd, 1)) (d10 : decode code (p0 + 10) = .ok (.iaload, 1)) (d11 : decode code (p0 + 11) = .ok (.aload_n 0, 1)) (d12 : decode code (p0 + 12) = .ok (.iload_n 3, 1)) (d13 : decode code (p0 + 13) = .ok (.iconst 3, 1)) (d14 : decode code (p0 + 14) = .ok (.iadd, 1)) (d15 : decode code (p0 + 15) = .ok (.iaload, 1)) (d16 : decode code (p0 + 16) = .ok (.invokevirtual ix, 3)) (d17 : decode code (p0 + 19) = .ok (.aload_n 2, 1)) (d18 : decode code (p0 + 20) = .ok (.aload_n 0, 1)) (d19 : decode code (p0 + 21) = .ok (.iload_n 3, 1)) (d20 : decode code (p0 + 22) = .ok (.iconst 1, 1)) (d21 : decode code (p0 + 23) = .ok (.iadd, 1)) (d22 : decode code (p0 + 24) = .ok (.iaload, 1)) (d23 : decode code (p0 + 25) = .ok (.aload_n 0, 1)) (d24 : decode code (p0 + 26) = .ok (.iload_n 3, 1)) (d25 : decode code (p0 + 27) = .ok (.iconst 2, 1)) (d26 : decode code (p0 + 28) = .ok (.iadd, 1)) (d27 : decode code (p0 + 29) = .ok (.iaload, 1)) (d28 : decode code (p0 + 30) = .ok (.aload_n 0, 1)) (d29 : decode code (p0 + 31) = .ok (.iload_n 3, 1)) (d30 : decode code (p0 + 32) = .ok (.iconst 3, 1)) (d31 : decode code (p0 + 33) = .ok (.iadd, 1)) (d32 : decode code (p0 + 34) = .ok (.iaload, 1)) (d33 : decode code (p0 + 35) = .ok (.invokevirtual im, 3)) (d34 : decode code (p0 + 38) = .ok (.if_icmp .eq off, 3)) (ht : ((p0 + 38 : Nat) : Int) + off = ((2386 : Nat) : Int))
    {H : Heap} {locs : List Loc} {cells slots : Nat} {ls : Array Slot} (hW : lw_Wd xs s.heap.size D dA H) (hS : va_S (fun q => s.heap.size ≤ q) s.heap H locs) (hl : lv_has ls 4 [(3, .int 0), (2, .ref (s.heap.size + 740)), (1, .ref s.heap.size), (0, .ref b)]) (hc : cells ≤ 600000) (hs : slots ≤ 7302250) : W p la e room_1 s m #[Value.ref b] below meth c H locs cells slots (lw_Z below #[Value.ref b] s) (F0 m p0 ls []) := by
  have C0 := C
  obtain ⟨⟨hx, hb, hr, hml, hown, hts, hX, hbl, hlocks, hgv⟩, hK, hKA⟩ := C
  have hbA : ¬ (fun q : Nat => s.heap.size ≤ q) b := Nat.not_le.mpr hbl
  subst hL6
  obtain ⟨kx1, hkx, hkn, hMx, hnext⟩ := two
  obtain ⟨c0, hc0, hc1⟩ := lw_sx
  obtain ⟨c2, hc2, hc3⟩ := lw_sm
  refine lv_aload_n hx hb d0 rfl (lv_at hl 2 rfl) ?_
  refine lv_aload_n hx hb d1 rfl (lv_at hl 3 rfl) ?_
  refine lv_iload_n hx hb d2 rfl (lv_at hl 0 rfl) ?_
  refine lv_iconst (v := 1) hx hb d3 (by decide) ?_
  refine lv_iadd hx hb d4 ?_
  refine va_sld hx hb hX hbl hbA hS (show vp_in ((0 : Int32) + 1) 6 by unfold vp_in; decide) d5 ?_
  rw [show ((0 : Int32) + 1).toNatClampNeg = 1 by decide]
  refine lv_aload_n hx hb d6 rfl (lv_at hl 3 rfl) ?_
  refine lv_iload_n hx hb d7 rfl (lv_at hl 0 rfl) ?_
  refine lv_iconst (v := 2) hx hb d8 (by decide) ?_
  refine lv_iadd hx hb d9 ?_
  refine va_sld hx hb hX hbl hbA hS (show vp_in ((0 : Int32) + 2) 6 by unfold vp_in; decide) d10 ?_
  rw [show ((0 : Int32) + 2).toNatClampNeg = 2 by decide]
  refine lv_aload_n hx hb d11 rfl (lv_at hl 3 rfl) ?_
  refine lv_iload_n hx hb d12 rfl (lv_at hl 0 rfl) ?_
  refine lv_iconst (v := 3) hx hb d13 (by decide) ?_
  refine lv_iadd hx hb d14 ?_
  refine va_sld hx hb hX hbl hbA hS (show vp_in ((0 : Int32) + 3) 6 by unfold vp_in; decide) d15 ?_
  rw [show ((0 : Int32) + 3).toNatClampNeg = 3 by decide]
  refine lw_call (As := [.int (xs 1), .int (xs 2), .int (xs 3)]) (rest := []) C0 okx lx.1 lx.2 kx hc0 hc1 (by decide) hMx hkx hW.1 hS (fun q hq => by rcases hq with q1 | q1; exact q1.1; omega) rfl hl.1 (by decide) d16 (by rw [zx.1, zx.2]; exact ⟨hc, hs⟩) (fun x v env h' n' H1 locs1 hk1 hρ hg hS hz hn' hfr => ?_)
  obtain ⟨km1, hkm, hMm, hend⟩ := hnext env h' n' x v hk1 hρ hg
  rw [zx.1, zx.2]
  have hWm : xHR (xext xs) (s.heap.size + 740) (xFm s.heap.size) D dA xTys vwCl xSM 21 H1 := by
    obtain ⟨⟨w1, w2, w3⟩, w4⟩ := hW.2
    refine ⟨⟨?_, w2, w3⟩, fun a cc ha => (w4 a cc ha).kept (hfr _ (w4 a cc ha).lt ?_)⟩
    · have w5 := hW.1.1.1
      have w7 := hkn env h' n' x hk1
      omega
    · have w6 := (w4 a cc ha).lt
      have w5 := hW.1.1.1
      intro f
      rcases f with f | f <;> omega
  refine lv_aload_n hx hb d17 rfl (lv_at hl 1 rfl) ?_
  refine lv_aload_n hx hb d18 rfl (lv_at hl 3 rfl) ?_
  refine lv_iload_n hx hb d19 rfl (lv_at hl 0 rfl) ?_
  refine lv_iconst (v := 1) hx hb d20 (by decide) ?_
  refine lv_iadd hx hb d21 ?_
  refine va_sld hx hb hX hbl hbA hS (show vp_in ((0 : Int32) + 1) 6 by unfold vp_in; decide) d22 ?_
  rw [show ((0 : Int32) + 1).toNatClampNeg = 1 by decide]
  refine lv_aload_n hx hb d23 rfl (lv_at hl 3 rfl) ?_
  refine lv_iload_n hx hb d24 rfl (lv_at hl 0 rfl) ?_
  refine lv_iconst (v := 2) hx hb d25 (by decide) ?_
  refine lv_iadd hx hb d26 ?_
  refine va_sld hx hb hX hbl hbA hS (show vp_in ((0 : Int32) + 2) 6 by unfold vp_in; decide) d27 ?_
  rw [show ((0 : Int32) + 2).toNatClampNeg = 2 by decide]
  refine lv_aload_n hx hb d28 rfl (lv_at hl 3 rfl) ?_
  refine lv_iload_n hx hb d29 rfl (lv_at hl 0 rfl) ?_
  refine lv_iconst (v := 3) hx hb d30 (by decide) ?_
  refine lv_iadd hx hb d31 ?_
  refine va_sld hx hb hX hbl hbA hS (show vp_in ((0 : Int32) + 3) 6 by unfold vp_in; decide) d32 ?_
  rw [show ((0 : Int32) + 3).toNatClampNeg = 3 by decide]
  refine lw_call (As := [.int (xs 1), .int (xs 2), .int (xs 3)]) (rest := [v]) C0 okm lm.1 lm.2 km hc2 hc3 (by decide) hMm hkm hWm hS (fun q hq => by have hq : s.heap.size + 740 ≤ q := hq; omega) rfl hl.1 (by have := lv_cat v; show v.category + 0 ≤ 8; omega) d33 (by rw [zm.1, zm.2]; exact ⟨hc, hs⟩) (fun x' v' env' h'' n'' H2 locs2 hk2 hρ' hg' hS hz' hn'' hfr' => ?_)
  obtain ⟨z, rfl, rfl⟩ := hend env' h'' n'' x' v' hk2 hρ' hg'
  rw [zm.1, zm.2]
  refine lv_icmp_eq (tgt := 2386) hx hb d34 ht (fun _ => ?_) (fun q => absurd rfl q)
  exact lw_tail C0 rfl hS hl hc hs
theorem lw_op4 {p0 ix im : Nat} {off : Int} {mx mm : xM} (C : lw_Cx p s m meth c b L xs D dA) (hL6 : L = 6) (okx : lw_Ok mx 4) (okm : lw_Ok mm 4) (lx : Jvm.Cond.methodLink R_law ix mx.1 ∈ lw_tbl ∧ Jvm.Cond.selects mx.1.cls mx.1 mx.1 ∈ lw_tbl) (lm : Jvm.Cond.methodLink R_law im mm.1 ∈ lw_tbl ∧ Jvm.Cond.selects mm.1.cls mm.1 mm.1 ∈ lw_tbl) (kx : vwCl[11]? = some (mx.1.cls, TX11, 16)) (km : vwCl[12]? = some (mm.1.cls, TX12, 40)) (zx : (xR mx).cells = 0 ∧ (xR mx).slots = 0) (zm : (xR mm).cells = 0 ∧ (xR mm).slots = 0) (two : lw_Two la xs s.heap.size D dA mx mm [.int (xs 1), .int (xs 2), .int (xs 3), .int (xs 4)]) (d0 : decode code p0 = .ok (.aload_n 1, 1)) (d1 : decode code (p0 + 1) = .ok (.aload_n 0, 1)) (d2 : decode code (p0 + 2) = .ok (.iload_n 3, 1)) (d3 : decode code (p0 + 3) = .ok (.iconst 1, 1)) (d4 : decode code (p0 + 4) = .ok (.iadd, 1)) (d5 : decode code (p0 + 5) = .ok (.iaload, 1)) (d6 : decode code (p0 + 6) = .ok (.aload_n 0, 1)) (d7 : decode code (p0 + 7) = .ok (.iload_n 3, 1)) (d8 : decode code (p0 + 8) = .ok (.iconst 2, 1)) (d9 : decode code (p0 + 9) = .ok (.iadd, 1)) (d10 : decode code (p0 + 10) = .ok (.iaload, 1)) (d11 : decode code (p0 + 11) = .ok (.aload_n 0, 1)) (d12 : decode code (p0 + 12) = .ok (.iload_n 3, 1)) (d13 : decode code (p0 + 13) = .ok (.iconst 3, 1)) (d14 : decode code (p0 + 14) = .ok (.iadd, 1)) (d15 : decode code (p0 + 15) = .ok (.iaload, 1)) (d16 : decode code (p0 + 16) = .ok (.aload_n 0, 1)) (d17 : decode code (p0 + 17) = .ok (.iload_n 3, 1)) (d18 : decode code (p0 + 18) = .ok (.iconst 4, 1)) (d19 : decode code (p0 + 19) = .ok (.iadd, 1)) (d20 : decode code (p0 + 20) = .ok (.iaload, 1)) (d21 : decode code (p0 + 21) = .ok (.invokevirtual ix, 3)) (d22 : decode code (p0 + 24) = .ok (.aload_n 2, 1)) (d23 : decode code (p0 + 25) = .ok (.aload_n 0, 1)) (d24 : decode code (p0 + 26) = .ok (.iload_n 3, 1)) (d25 : decode code (p0 + 27) = .ok (.iconst 1, 1)) (d26 : decode code (p0 + 28) = .ok (.iadd, 1)) (d27 : decode code (p0 + 29) = .ok (.iaload, 1)) (d28 : decode code (p0 + 30) = .ok (.aload_n 0, 1)) (d29 : decode code (p0 + 31) = .ok (.iload_n 3, 1)) (d30 : decode code (p0 + 32) = .ok (.iconst 2, 1)) (d31 : decode code (p0 + 33) = .ok (.iadd, 1)) (d32 : decode code (p0 + 34) = .ok (.iaload, 1)) (d33 : decode code (p0 + 35) = .ok (.aload_n 0, 1)) (d34 : decode code (p0 + 36) = .ok (.iload_n 3, 1)) (d35 : decode code (p0 + 37) = .ok (.iconst 3, 1)) (d36 : decode code (p0 + 38) = .ok (.iadd, 1)) (d37 : decode code (p0 + 39) = .ok (.iaload, 1)) (d38 : decode code (p0 + 40) = .ok (.aload_n 0, 1)) (d39 : decode code (p0 + 41) = .ok (.iload_n 3, 1)) (d40 : decode code (p0 + 42) = .ok (.iconst 4, 1)) (d41 : decode code (p0 + 43) = .ok (.iadd, 1)) (d42 : decode code (p0 + 44) = .ok (.iaload, 1)) (d43 : decode code (p0 + 45) = .ok (.invokevirtual im, 3)) (d44 : decode code (p0 + 48) = .ok (.if_icmp .eq off, 3)) (ht : ((p0 + 48 : Nat) : Int) + off = ((2386 : Nat) : Int))
    {H : Heap} {locs : List Loc} {cells slots : Nat} {ls : Array Slot} (hW : lw_Wd xs s.heap.size D dA H) (hS : va_S (fun q => s.heap.size ≤ q) s.heap H locs) (hl : lv_has ls 4 [(3, .int 0), (2, .ref (s.heap.size + 740)), (1, .ref s.heap.size), (0, .ref b)]) (hc : cells ≤ 600000) (hs : slots ≤ 7302250) : W p la e room_1 s m #[Value.ref b] below meth c H locs cells slots (lw_Z below #[Value.ref b] s) (F0 m p0 ls []) := by
  have C0 := C
  obtain ⟨⟨hx, hb, hr, hml, hown, hts, hX, hbl, hlocks, hgv⟩, hK, hKA⟩ := C
  have hbA : ¬ (fun q : Nat => s.heap.size ≤ q) b := Nat.not_le.mpr hbl
  subst hL6
  obtain ⟨kx1, hkx, hkn, hMx, hnext⟩ := two
  obtain ⟨c0, hc0, hc1⟩ := lw_sx
  obtain ⟨c2, hc2, hc3⟩ := lw_sm
  refine lv_aload_n hx hb d0 rfl (lv_at hl 2 rfl) ?_
  refine lv_aload_n hx hb d1 rfl (lv_at hl 3 rfl) ?_
  refine lv_iload_n hx hb d2 rfl (lv_at hl 0 rfl) ?_
  refine lv_iconst (v := 1) hx hb d3 (by decide) ?_
  refine lv_iadd hx hb d4 ?_
  refine va_sld hx hb hX hbl hbA hS (show vp_in ((0 : Int32) + 1) 6 by unfold vp_in; decide) d5 ?_
  rw [show ((0 : Int32) + 1).toNatClampNeg = 1 by decide]
  refine lv_aload_n hx hb d6 rfl (lv_at hl 3 rfl) ?_
  refine lv_iload_n hx hb d7 rfl (lv_at hl 0 rfl) ?_
  refine lv_iconst (v := 2) hx hb d8 (by decide) ?_
  refine lv_iadd hx hb d9 ?_
  refine va_sld hx hb hX hbl hbA hS (show vp_in ((0 : Int32) + 2) 6 by unfold vp_in; decide) d10 ?_
  rw [show ((0 : Int32) + 2).toNatClampNeg = 2 by decide]
  refine lv_aload_n hx hb d11 rfl (lv_at hl 3 rfl) ?_
  refine lv_iload_n hx hb d12 rfl (lv_at hl 0 rfl) ?_
  refine lv_iconst (v := 3) hx hb d13 (by decide) ?_
  refine lv_iadd hx hb d14 ?_
  refine va_sld hx hb hX hbl hbA hS (show vp_in ((0 : Int32) + 3) 6 by unfold vp_in; decide) d15 ?_
  rw [show ((0 : Int32) + 3).toNatClampNeg = 3 by decide]
  refine lv_aload_n hx hb d16 rfl (lv_at hl 3 rfl) ?_
  refine lv_iload_n hx hb d17 rfl (lv_at hl 0 rfl) ?_
  refine lv_iconst (v := 4) hx hb d18 (by decide) ?_
  refine lv_iadd hx hb d19 ?_
  refine va_sld hx hb hX hbl hbA hS (show vp_in ((0 : Int32) + 4) 6 by unfold vp_in; decide) d20 ?_
  rw [show ((0 : Int32) + 4).toNatClampNeg = 4 by decide]
  refine lw_call (As := [.int (xs 1), .int (xs 2), .int (xs 3), .int (xs 4)]) (rest := []) C0 okx lx.1 lx.2 kx hc0 hc1 (by decide) hMx hkx hW.1 hS (fun q hq => by rcases hq with q1 | q1; exact q1.1; omega) rfl hl.1 (by decide) d21 (by rw [zx.1, zx.2]; exact ⟨hc, hs⟩) (fun x v env h' n' H1 locs1 hk1 hρ hg hS hz hn' hfr => ?_)
  obtain ⟨km1, hkm, hMm, hend⟩ := hnext env h' n' x v hk1 hρ hg
  rw [zx.1, zx.2]
  have hWm : xHR (xext xs) (s.heap.size + 740) (xFm s.heap.size) D dA xTys vwCl xSM 21 H1 := by
    obtain ⟨⟨w1, w2, w3⟩, w4⟩ := hW.2
    refine ⟨⟨?_, w2, w3⟩, fun a cc ha => (w4 a cc ha).kept (hfr _ (w4 a cc ha).lt ?_)⟩
    · have w5 := hW.1.1.1
      have w7 := hkn env h' n' x hk1
      omega
    · have w6 := (w4 a cc ha).lt
      have w5 := hW.1.1.1
      intro f
      rcases f with f | f <;> omega
  refine lv_aload_n hx hb d22 rfl (lv_at hl 1 rfl) ?_
  refine lv_aload_n hx hb d23 rfl (lv_at hl 3 rfl) ?_
  refine lv_iload_n hx hb d24 rfl (lv_at hl 0 rfl) ?_
  refine lv_iconst (v := 1) hx hb d25 (by decide) ?_
  refine lv_iadd hx hb d26 ?_
  refine va_sld hx hb hX hbl hbA hS (show vp_in ((0 : Int32) + 1) 6 by unfold vp_in; decide) d27 ?_
  rw [show ((0 : Int32) + 1).toNatClampNeg = 1 by decide]
  refine lv_aload_n hx hb d28 rfl (lv_at hl 3 rfl) ?_
  refine lv_iload_n hx hb d29 rfl (lv_at hl 0 rfl) ?_
  refine lv_iconst (v := 2) hx hb d30 (by decide) ?_
  refine lv_iadd hx hb d31 ?_
  refine va_sld hx hb hX hbl hbA hS (show vp_in ((0 : Int32) + 2) 6 by unfold vp_in; decide) d32 ?_
  rw [show ((0 : Int32) + 2).toNatClampNeg = 2 by decide]
  refine lv_aload_n hx hb d33 rfl (lv_at hl 3 rfl) ?_
  refine lv_iload_n hx hb d34 rfl (lv_at hl 0 rfl) ?_
  refine lv_iconst (v := 3) hx hb d35 (by decide) ?_
  refine lv_iadd hx hb d36 ?_
  refine va_sld hx hb hX hbl hbA hS (show vp_in ((0 : Int32) + 3) 6 by unfold vp_in; decide) d37 ?_
  rw [show ((0 : Int32) + 3).toNatClampNeg = 3 by decide]
  refine lv_aload_n hx hb d38 rfl (lv_at hl 3 rfl) ?_
  refine lv_iload_n hx hb d39 rfl (lv_at hl 0 rfl) ?_
  refine lv_iconst (v := 4) hx hb d40 (by decide) ?_
  refine lv_iadd hx hb d41 ?_
  refine va_sld hx hb hX hbl hbA hS (show vp_in ((0 : Int32) + 4) 6 by unfold vp_in; decide) d42 ?_
  rw [show ((0 : Int32) + 4).toNatClampNeg = 4 by decide]
  refine lw_call (As := [.int (xs 1), .int (xs 2), .int (xs 3), .int (xs 4)]) (rest := [v]) C0 okm lm.1 lm.2 km hc2 hc3 (by decide) hMm hkm hWm hS (fun q hq => by have hq : s.heap.size + 740 ≤ q := hq; omega) rfl hl.1 (by have := lv_cat v; show v.category + 0 ≤ 8; omega) d43 (by rw [zm.1, zm.2]; exact ⟨hc, hs⟩) (fun x' v' env' h'' n'' H2 locs2 hk2 hρ' hg' hS hz' hn'' hfr' => ?_)
  obtain ⟨z, rfl, rfl⟩ := hend env' h'' n'' x' v' hk2 hρ' hg'
  rw [zm.1, zm.2]
  refine lv_icmp_eq (tgt := 2386) hx hb d44 ht (fun _ => ?_) (fun q => absurd rfl q)
  exact lw_tail C0 rfl hS hl hc hs
theorem lw_op5 {p0 ix im : Nat} {off : Int} {mx mm : xM} (C : lw_Cx p s m meth c b L xs D dA) (hL6 : L = 6) (okx : lw_Ok mx 5) (okm : lw_Ok mm 5) (lx : Jvm.Cond.methodLink R_law ix mx.1 ∈ lw_tbl ∧ Jvm.Cond.selects mx.1.cls mx.1 mx.1 ∈ lw_tbl) (lm : Jvm.Cond.methodLink R_law im mm.1 ∈ lw_tbl ∧ Jvm.Cond.selects mm.1.cls mm.1 mm.1 ∈ lw_tbl) (kx : vwCl[11]? = some (mx.1.cls, TX11, 16)) (km : vwCl[12]? = some (mm.1.cls, TX12, 40)) (zx : (xR mx).cells = 0 ∧ (xR mx).slots = 0) (zm : (xR mm).cells = 0 ∧ (xR mm).slots = 0) (two : lw_Two la xs s.heap.size D dA mx mm [.int (xs 1), .int (xs 2), .int (xs 3), .int (xs 4), .int (xs 5)]) (d0 : decode code p0 = .ok (.aload_n 1, 1)) (d1 : decode code (p0 + 1) = .ok (.aload_n 0, 1)) (d2 : decode code (p0 + 2) = .ok (.iload_n 3, 1)) (d3 : decode code (p0 + 3) = .ok (.iconst 1, 1)) (d4 : decode code (p0 + 4) = .ok (.iadd, 1)) (d5 : decode code (p0 + 5) = .ok (.iaload, 1)) (d6 : decode code (p0 + 6) = .ok (.aload_n 0, 1)) (d7 : decode code (p0 + 7) = .ok (.iload_n 3, 1)) (d8 : decode code (p0 + 8) = .ok (.iconst 2, 1)) (d9 : decode code (p0 + 9) = .ok (.iadd, 1)) (d10 : decode code (p0 + 10) = .ok (.iaload, 1)) (d11 : decode code (p0 + 11) = .ok (.aload_n 0, 1)) (d12 : decode code (p0 + 12) = .ok (.iload_n 3, 1)) (d13 : decode code (p0 + 13) = .ok (.iconst 3, 1)) (d14 : decode code (p0 + 14) = .ok (.iadd, 1)) (d15 : decode code (p0 + 15) = .ok (.iaload, 1)) (d16 : decode code (p0 + 16) = .ok (.aload_n 0, 1)) (d17 : decode code (p0 + 17) = .ok (.iload_n 3, 1)) (d18 : decode code (p0 + 18) = .ok (.iconst 4, 1)) (d19 : decode code (p0 + 19) = .ok (.iadd, 1)) (d20 : decode code (p0 + 20) = .ok (.iaload, 1)) (d21 : decode code (p0 + 21) = .ok (.aload_n 0, 1)) (d22 : decode code (p0 + 22) = .ok (.iload_n 3, 1)) (d23 : decode code (p0 + 23) = .ok (.iconst 5, 1)) (d24 : decode code (p0 + 24) = .ok (.iadd, 1)) (d25 : decode code (p0 + 25) = .ok (.iaload, 1)) (d26 : decode code (p0 + 26) = .ok (.invokevirtual ix, 3)) (d27 : decode code (p0 + 29) = .ok (.aload_n 2, 1)) (d28 : decode code (p0 + 30) = .ok (.aload_n 0, 1)) (d29 : decode code (p0 + 31) = .ok (.iload_n 3, 1)) (d30 : decode code (p0 + 32) = .ok (.iconst 1, 1)) (d31 : decode code (p0 + 33) = .ok (.iadd, 1)) (d32 : decode code (p0 + 34) = .ok (.iaload, 1)) (d33 : decode code (p0 + 35) = .ok (.aload_n 0, 1)) (d34 : decode code (p0 + 36) = .ok (.iload_n 3, 1)) (d35 : decode code (p0 + 37) = .ok (.iconst 2, 1)) (d36 : decode code (p0 + 38) = .ok (.iadd, 1)) (d37 : decode code (p0 + 39) = .ok (.iaload, 1)) (d38 : decode code (p0 + 40) = .ok (.aload_n 0, 1)) (d39 : decode code (p0 + 41) = .ok (.iload_n 3, 1)) (d40 : decode code (p0 + 42) = .ok (.iconst 3, 1)) (d41 : decode code (p0 + 43) = .ok (.iadd, 1)) (d42 : decode code (p0 + 44) = .ok (.iaload, 1)) (d43 : decode code (p0 + 45) = .ok (.aload_n 0, 1)) (d44 : decode code (p0 + 46) = .ok (.iload_n 3, 1)) (d45 : decode code (p0 + 47) = .ok (.iconst 4, 1)) (d46 : decode code (p0 + 48) = .ok (.iadd, 1)) (d47 : decode code (p0 + 49) = .ok (.iaload, 1)) (d48 : decode code (p0 + 50) = .ok (.aload_n 0, 1)) (d49 : decode code (p0 + 51) = .ok (.iload_n 3, 1)) (d50 : decode code (p0 + 52) = .ok (.iconst 5, 1)) (d51 : decode code (p0 + 53) = .ok (.iadd, 1)) (d52 : decode code (p0 + 54) = .ok (.iaload, 1)) (d53 : decode code (p0 + 55) = .ok (.invokevirtual im, 3)) (d54 : decode code (p0 + 58) = .ok (.if_icmp .eq off, 3)) (ht : ((p0 + 58 : Nat) : Int) + off = ((2386 : Nat) : Int))
    {H : Heap} {locs : List Loc} {cells slots : Nat} {ls : Array Slot} (hW : lw_Wd xs s.heap.size D dA H) (hS : va_S (fun q => s.heap.size ≤ q) s.heap H locs) (hl : lv_has ls 4 [(3, .int 0), (2, .ref (s.heap.size + 740)), (1, .ref s.heap.size), (0, .ref b)]) (hc : cells ≤ 600000) (hs : slots ≤ 7302250) : W p la e room_1 s m #[Value.ref b] below meth c H locs cells slots (lw_Z below #[Value.ref b] s) (F0 m p0 ls []) := by
  have C0 := C
  obtain ⟨⟨hx, hb, hr, hml, hown, hts, hX, hbl, hlocks, hgv⟩, hK, hKA⟩ := C
  have hbA : ¬ (fun q : Nat => s.heap.size ≤ q) b := Nat.not_le.mpr hbl
  subst hL6
  obtain ⟨kx1, hkx, hkn, hMx, hnext⟩ := two
  obtain ⟨c0, hc0, hc1⟩ := lw_sx
  obtain ⟨c2, hc2, hc3⟩ := lw_sm
  refine lv_aload_n hx hb d0 rfl (lv_at hl 2 rfl) ?_
  refine lv_aload_n hx hb d1 rfl (lv_at hl 3 rfl) ?_
  refine lv_iload_n hx hb d2 rfl (lv_at hl 0 rfl) ?_
  refine lv_iconst (v := 1) hx hb d3 (by decide) ?_
  refine lv_iadd hx hb d4 ?_
  refine va_sld hx hb hX hbl hbA hS (show vp_in ((0 : Int32) + 1) 6 by unfold vp_in; decide) d5 ?_
  rw [show ((0 : Int32) + 1).toNatClampNeg = 1 by decide]
  refine lv_aload_n hx hb d6 rfl (lv_at hl 3 rfl) ?_
  refine lv_iload_n hx hb d7 rfl (lv_at hl 0 rfl) ?_
  refine lv_iconst (v := 2) hx hb d8 (by decide) ?_
  refine lv_iadd hx hb d9 ?_
  refine va_sld hx hb hX hbl hbA hS (show vp_in ((0 : Int32) + 2) 6 by unfold vp_in; decide) d10 ?_
  rw [show ((0 : Int32) + 2).toNatClampNeg = 2 by decide]
  refine lv_aload_n hx hb d11 rfl (lv_at hl 3 rfl) ?_
  refine lv_iload_n hx hb d12 rfl (lv_at hl 0 rfl) ?_
  refine lv_iconst (v := 3) hx hb d13 (by decide) ?_
  refine lv_iadd hx hb d14 ?_
  refine va_sld hx hb hX hbl hbA hS (show vp_in ((0 : Int32) + 3) 6 by unfold vp_in; decide) d15 ?_
  rw [show ((0 : Int32) + 3).toNatClampNeg = 3 by decide]
  refine lv_aload_n hx hb d16 rfl (lv_at hl 3 rfl) ?_
  refine lv_iload_n hx hb d17 rfl (lv_at hl 0 rfl) ?_
  refine lv_iconst (v := 4) hx hb d18 (by decide) ?_
  refine lv_iadd hx hb d19 ?_
  refine va_sld hx hb hX hbl hbA hS (show vp_in ((0 : Int32) + 4) 6 by unfold vp_in; decide) d20 ?_
  rw [show ((0 : Int32) + 4).toNatClampNeg = 4 by decide]
  refine lv_aload_n hx hb d21 rfl (lv_at hl 3 rfl) ?_
  refine lv_iload_n hx hb d22 rfl (lv_at hl 0 rfl) ?_
  refine lv_iconst (v := 5) hx hb d23 (by decide) ?_
  refine lv_iadd hx hb d24 ?_
  refine va_sld hx hb hX hbl hbA hS (show vp_in ((0 : Int32) + 5) 6 by unfold vp_in; decide) d25 ?_
  rw [show ((0 : Int32) + 5).toNatClampNeg = 5 by decide]
  refine lw_call (As := [.int (xs 1), .int (xs 2), .int (xs 3), .int (xs 4), .int (xs 5)]) (rest := []) C0 okx lx.1 lx.2 kx hc0 hc1 (by decide) hMx hkx hW.1 hS (fun q hq => by rcases hq with q1 | q1; exact q1.1; omega) rfl hl.1 (by decide) d26 (by rw [zx.1, zx.2]; exact ⟨hc, hs⟩) (fun x v env h' n' H1 locs1 hk1 hρ hg hS hz hn' hfr => ?_)
  obtain ⟨km1, hkm, hMm, hend⟩ := hnext env h' n' x v hk1 hρ hg
  rw [zx.1, zx.2]
  have hWm : xHR (xext xs) (s.heap.size + 740) (xFm s.heap.size) D dA xTys vwCl xSM 21 H1 := by
    obtain ⟨⟨w1, w2, w3⟩, w4⟩ := hW.2
    refine ⟨⟨?_, w2, w3⟩, fun a cc ha => (w4 a cc ha).kept (hfr _ (w4 a cc ha).lt ?_)⟩
    · have w5 := hW.1.1.1
      have w7 := hkn env h' n' x hk1
      omega
    · have w6 := (w4 a cc ha).lt
      have w5 := hW.1.1.1
      intro f
      rcases f with f | f <;> omega
  refine lv_aload_n hx hb d27 rfl (lv_at hl 1 rfl) ?_
  refine lv_aload_n hx hb d28 rfl (lv_at hl 3 rfl) ?_
  refine lv_iload_n hx hb d29 rfl (lv_at hl 0 rfl) ?_
  refine lv_iconst (v := 1) hx hb d30 (by decide) ?_
  refine lv_iadd hx hb d31 ?_
  refine va_sld hx hb hX hbl hbA hS (show vp_in ((0 : Int32) + 1) 6 by unfold vp_in; decide) d32 ?_
  rw [show ((0 : Int32) + 1).toNatClampNeg = 1 by decide]
  refine lv_aload_n hx hb d33 rfl (lv_at hl 3 rfl) ?_
  refine lv_iload_n hx hb d34 rfl (lv_at hl 0 rfl) ?_
  refine lv_iconst (v := 2) hx hb d35 (by decide) ?_
  refine lv_iadd hx hb d36 ?_
  refine va_sld hx hb hX hbl hbA hS (show vp_in ((0 : Int32) + 2) 6 by unfold vp_in; decide) d37 ?_
  rw [show ((0 : Int32) + 2).toNatClampNeg = 2 by decide]
  refine lv_aload_n hx hb d38 rfl (lv_at hl 3 rfl) ?_
  refine lv_iload_n hx hb d39 rfl (lv_at hl 0 rfl) ?_
  refine lv_iconst (v := 3) hx hb d40 (by decide) ?_
  refine lv_iadd hx hb d41 ?_
  refine va_sld hx hb hX hbl hbA hS (show vp_in ((0 : Int32) + 3) 6 by unfold vp_in; decide) d42 ?_
  rw [show ((0 : Int32) + 3).toNatClampNeg = 3 by decide]
  refine lv_aload_n hx hb d43 rfl (lv_at hl 3 rfl) ?_
  refine lv_iload_n hx hb d44 rfl (lv_at hl 0 rfl) ?_
  refine lv_iconst (v := 4) hx hb d45 (by decide) ?_
  refine lv_iadd hx hb d46 ?_
  refine va_sld hx hb hX hbl hbA hS (show vp_in ((0 : Int32) + 4) 6 by unfold vp_in; decide) d47 ?_
  rw [show ((0 : Int32) + 4).toNatClampNeg = 4 by decide]
  refine lv_aload_n hx hb d48 rfl (lv_at hl 3 rfl) ?_
  refine lv_iload_n hx hb d49 rfl (lv_at hl 0 rfl) ?_
  refine lv_iconst (v := 5) hx hb d50 (by decide) ?_
  refine lv_iadd hx hb d51 ?_
  refine va_sld hx hb hX hbl hbA hS (show vp_in ((0 : Int32) + 5) 6 by unfold vp_in; decide) d52 ?_
  rw [show ((0 : Int32) + 5).toNatClampNeg = 5 by decide]
  refine lw_call (As := [.int (xs 1), .int (xs 2), .int (xs 3), .int (xs 4), .int (xs 5)]) (rest := [v]) C0 okm lm.1 lm.2 km hc2 hc3 (by decide) hMm hkm hWm hS (fun q hq => by have hq : s.heap.size + 740 ≤ q := hq; omega) rfl hl.1 (by have := lv_cat v; show v.category + 0 ≤ 8; omega) d53 (by rw [zm.1, zm.2]; exact ⟨hc, hs⟩) (fun x' v' env' h'' n'' H2 locs2 hk2 hρ' hg' hS hz' hn'' hfr' => ?_)
  obtain ⟨z, rfl, rfl⟩ := hend env' h'' n'' x' v' hk2 hρ' hg'
  rw [zm.1, zm.2]
  refine lv_icmp_eq (tgt := 2386) hx hb d54 ht (fun _ => ?_) (fun q => absurd rfl q)
  exact lw_tail C0 rfl hS hl hc hs
end LWB

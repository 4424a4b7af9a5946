/-! the law's walk whole (written by gen60.py) -/
section LWF
variable {p : Program} {e : Env} {s : State} {m : MethodId} {below : List Frame} {meth : Method} {c : Code} {la : Launch} {b L : Nat} {xs : Nat → Int32} {D : va_G} {dA : Nat → ClassId}
theorem lw_sw (C : lw_Cx p s m meth c b L xs D dA) (hL6 : L = 6) {H : Heap} {locs : List Loc} {cells slots : Nat} {ls : Array Slot} (hW : lw_Wd xs s.heap.size D dA H) (hS : va_S (fun q => s.heap.size ≤ q) s.heap H locs) (hl : lv_has ls 4 [(3, .int 0), (2, .ref (s.heap.size + 740)), (1, .ref s.heap.size), (0, .ref b)]) (hc : cells ≤ 600000) (hs : slots ≤ 7302250) : ∀ j, j < 64 → W p la e room_1 s m #[Value.ref b] below meth c H locs cells slots (lw_Z below #[Value.ref b] s) (F0 m 33 ls [.int (nI j)])
  | 0, _ => lv_tableIn (off := 271) (tgt := 304) C.1.1 C.1.2.1 dl_33 (by decide) (by decide) rfl (by decide) (lw_c0 lw_t0 C hL6 hW hS hl hc hs)
  | 1, _ => lv_tableIn (off := 294) (tgt := 327) C.1.1 C.1.2.1 dl_33 (by decide) (by decide) rfl (by decide) (lw_c1 lw_t1 C hL6 hW hS hl hc hs)
  | 2, _ => lv_tableIn (off := 337) (tgt := 370) C.1.1 C.1.2.1 dl_33 (by decide) (by decide) rfl (by decide) (lw_c2 lw_t2 C hL6 hW hS hl hc hs)
  | 3, _ => lv_tableIn (off := 370) (tgt := 403) C.1.1 C.1.2.1 dl_33 (by decide) (by decide) rfl (by decide) (lw_c3 lw_t3 C hL6 hW hS hl hc hs)
  | 4, _ => lv_tableIn (off := 413) (tgt := 446) C.1.1 C.1.2.1 dl_33 (by decide) (by decide) rfl (by decide) (lw_c4 lw_t4 C hL6 hW hS hl hc hs)
  | 5, _ => lv_tableIn (off := 456) (tgt := 489) C.1.1 C.1.2.1 dl_33 (by decide) (by decide) rfl (by decide) (lw_c5 lw_t5 C hL6 hW hS hl hc hs)
  | 6, _ => lv_tableIn (off := 489) (tgt := 522) C.1.1 C.1.2.1 dl_33 (by decide) (by decide) rfl (by decide) (lw_c6 lw_t6 C hL6 hW hS hl hc hs)
  | 7, _ => lv_tableIn (off := 532) (tgt := 565) C.1.1 C.1.2.1 dl_33 (by decide) (by decide) rfl (by decide) (lw_c7 lw_t7 C hL6 hW hS hl hc hs)
  | 8, _ => lv_tableIn (off := 595) (tgt := 628) C.1.1 C.1.2.1 dl_33 (by decide) (by decide) rfl (by decide) (lw_c8 lw_t8 C hL6 hW hS hl hc hs)
  | 9, _ => lv_tableIn (off := 628) (tgt := 661) C.1.1 C.1.2.1 dl_33 (by decide) (by decide) rfl (by decide) (lw_c9 lw_t9 C hL6 hW hS hl hc hs)
  | 10, _ => lv_tableIn (off := 661) (tgt := 694) C.1.1 C.1.2.1 dl_33 (by decide) (by decide) rfl (by decide) (lw_c10 lw_t10 C hL6 hW hS hl hc hs)
  | 11, _ => lv_tableIn (off := 704) (tgt := 737) C.1.1 C.1.2.1 dl_33 (by decide) (by decide) rfl (by decide) (lw_c11 lw_t11 C hL6 hW hS hl hc hs)
  | 12, _ => lv_tableIn (off := 727) (tgt := 760) C.1.1 C.1.2.1 dl_33 (by decide) (by decide) rfl (by decide) (lw_c12 lw_t12 C hL6 hW hS hl hc hs)
  | 13, _ => lv_tableIn (off := 750) (tgt := 783) C.1.1 C.1.2.1 dl_33 (by decide) (by decide) rfl (by decide) (lw_c13 lw_t13 C hL6 hW hS hl hc hs)
  | 14, _ => lv_tableIn (off := 773) (tgt := 806) C.1.1 C.1.2.1 dl_33 (by decide) (by decide) rfl (by decide) (lw_c14 lw_t14 C hL6 hW hS hl hc hs)
  | 15, _ => lv_tableIn (off := 796) (tgt := 829) C.1.1 C.1.2.1 dl_33 (by decide) (by decide) rfl (by decide) (lw_c15 lw_t15 C hL6 hW hS hl hc hs)
  | 16, _ => lv_tableIn (off := 839) (tgt := 872) C.1.1 C.1.2.1 dl_33 (by decide) (by decide) rfl (by decide) (lw_c16 lw_t16 C hL6 hW hS hl hc hs)
  | 17, _ => lv_tableIn (off := 872) (tgt := 905) C.1.1 C.1.2.1 dl_33 (by decide) (by decide) rfl (by decide) (lw_c17 lw_t17 C hL6 hW hS hl hc hs)
  | 18, _ => lv_tableIn (off := 895) (tgt := 928) C.1.1 C.1.2.1 dl_33 (by decide) (by decide) rfl (by decide) (lw_c18 lw_t18 C hL6 hW hS hl hc hs)
  | 19, _ => lv_tableIn (off := 918) (tgt := 951) C.1.1 C.1.2.1 dl_33 (by decide) (by decide) rfl (by decide) (lw_c19 lw_t19 C hL6 hW hS hl hc hs)
  | 20, _ => lv_tableIn (off := 961) (tgt := 994) C.1.1 C.1.2.1 dl_33 (by decide) (by decide) rfl (by decide) (lw_c20 lw_t20 C hL6 hW hS hl hc hs)
  | 21, _ => lv_tableIn (off := 1004) (tgt := 1037) C.1.1 C.1.2.1 dl_33 (by decide) (by decide) rfl (by decide) (lw_c21 lw_t21 C hL6 hW hS hl hc hs)
  | 22, _ => lv_tableIn (off := 1037) (tgt := 1070) C.1.1 C.1.2.1 dl_33 (by decide) (by decide) rfl (by decide) (lw_c22 lw_t22 C hL6 hW hS hl hc hs)
  | 23, _ => lv_tableIn (off := 1060) (tgt := 1093) C.1.1 C.1.2.1 dl_33 (by decide) (by decide) rfl (by decide) (lw_c23 lw_t23 C hL6 hW hS hl hc hs)
  | 24, _ => lv_tableIn (off := 1103) (tgt := 1136) C.1.1 C.1.2.1 dl_33 (by decide) (by decide) rfl (by decide) (lw_c24 lw_t24 C hL6 hW hS hl hc hs)
  | 25, _ => lv_tableIn (off := 1126) (tgt := 1159) C.1.1 C.1.2.1 dl_33 (by decide) (by decide) rfl (by decide) (lw_c25 lw_t25 C hL6 hW hS hl hc hs)
  | 26, _ => lv_tableIn (off := 1139) (tgt := 1172) C.1.1 C.1.2.1 dl_33 (by decide) (by decide) rfl (by decide) (lw_c26 lw_t26 C hL6 hW hS hl hc hs)
  | 27, _ => lv_tableIn (off := 1172) (tgt := 1205) C.1.1 C.1.2.1 dl_33 (by decide) (by decide) rfl (by decide) (lw_c27 lw_t27 C hL6 hW hS hl hc hs)
  | 28, _ => lv_tableIn (off := 1195) (tgt := 1228) C.1.1 C.1.2.1 dl_33 (by decide) (by decide) rfl (by decide) (lw_c28 lw_t28 C hL6 hW hS hl hc hs)
  | 29, _ => lv_tableIn (off := 1228) (tgt := 1261) C.1.1 C.1.2.1 dl_33 (by decide) (by decide) rfl (by decide) (lw_c29 lw_t29 C hL6 hW hS hl hc hs)
  | 30, _ => lv_tableIn (off := 1241) (tgt := 1274) C.1.1 C.1.2.1 dl_33 (by decide) (by decide) rfl (by decide) (lw_c30 lw_t30 C hL6 hW hS hl hc hs)
  | 31, _ => lv_tableIn (off := 1284) (tgt := 1317) C.1.1 C.1.2.1 dl_33 (by decide) (by decide) rfl (by decide) (lw_c31 lw_t31 C hL6 hW hS hl hc hs)
  | 32, _ => lv_tableIn (off := 1307) (tgt := 1340) C.1.1 C.1.2.1 dl_33 (by decide) (by decide) rfl (by decide) (lw_c32 lw_t32 C hL6 hW hS hl hc hs)
  | 33, _ => lv_tableIn (off := 1340) (tgt := 1373) C.1.1 C.1.2.1 dl_33 (by decide) (by decide) rfl (by decide) (lw_c33 lw_t33 C hL6 hW hS hl hc hs)
  | 34, _ => lv_tableIn (off := 1363) (tgt := 1396) C.1.1 C.1.2.1 dl_33 (by decide) (by decide) rfl (by decide) (lw_c34 lw_t34 C hL6 hW hS hl hc hs)
  | 35, _ => lv_tableIn (off := 1376) (tgt := 1409) C.1.1 C.1.2.1 dl_33 (by decide) (by decide) rfl (by decide) (lw_c35 lw_t35 C hL6 hW hS hl hc hs)
  | 36, _ => lv_tableIn (off := 1389) (tgt := 1422) C.1.1 C.1.2.1 dl_33 (by decide) (by decide) rfl (by decide) (lw_c36 lw_t36 C hL6 hW hS hl hc hs)
  | 37, _ => lv_tableIn (off := 1432) (tgt := 1465) C.1.1 C.1.2.1 dl_33 (by decide) (by decide) rfl (by decide) (lw_c37 lw_t37 C hL6 hW hS hl hc hs)
  | 38, _ => lv_tableIn (off := 1475) (tgt := 1508) C.1.1 C.1.2.1 dl_33 (by decide) (by decide) rfl (by decide) (lw_c38 lw_t38 C hL6 hW hS hl hc hs)
  | 39, _ => lv_tableIn (off := 1508) (tgt := 1541) C.1.1 C.1.2.1 dl_33 (by decide) (by decide) rfl (by decide) (lw_c39 lw_t39 C hL6 hW hS hl hc hs)
  | 40, _ => lv_tableIn (off := 1541) (tgt := 1574) C.1.1 C.1.2.1 dl_33 (by decide) (by decide) rfl (by decide) (lw_c40 lw_t40 C hL6 hW hS hl hc hs)
  | 41, _ => lv_tableIn (off := 1604) (tgt := 1637) C.1.1 C.1.2.1 dl_33 (by decide) (by decide) rfl (by decide) (lw_c41 lw_t41 C hL6 hW hS hl hc hs)
  | 42, _ => lv_tableIn (off := 1647) (tgt := 1680) C.1.1 C.1.2.1 dl_33 (by decide) (by decide) rfl (by decide) (lw_c42 lw_t42 C hL6 hW hS hl hc hs)
  | 43, _ => lv_tableIn (off := 1680) (tgt := 1713) C.1.1 C.1.2.1 dl_33 (by decide) (by decide) rfl (by decide) (lw_c43 lw_t43 C hL6 hW hS hl hc hs)
  | 44, _ => lv_tableIn (off := 1703) (tgt := 1736) C.1.1 C.1.2.1 dl_33 (by decide) (by decide) rfl (by decide) (lw_c44 lw_t44 C hL6 hW hS hl hc hs)
  | 45, _ => lv_tableIn (off := 1736) (tgt := 1769) C.1.1 C.1.2.1 dl_33 (by decide) (by decide) rfl (by decide) (lw_c45 lw_t45 C hL6 hW hS hl hc hs)
  | 46, _ => lv_tableIn (off := 1769) (tgt := 1802) C.1.1 C.1.2.1 dl_33 (by decide) (by decide) rfl (by decide) (lw_c46 lw_t46 C hL6 hW hS hl hc hs)
  | 47, _ => lv_tableIn (off := 1822) (tgt := 1855) C.1.1 C.1.2.1 dl_33 (by decide) (by decide) rfl (by decide) (lw_c47 lw_t47 C hL6 hW hS hl hc hs)
  | 48, _ => lv_tableIn (off := 1855) (tgt := 1888) C.1.1 C.1.2.1 dl_33 (by decide) (by decide) rfl (by decide) (lw_c48 lw_t48 C hL6 hW hS hl hc hs)
  | 49, _ => lv_tableIn (off := 1898) (tgt := 1931) C.1.1 C.1.2.1 dl_33 (by decide) (by decide) rfl (by decide) (lw_c49 lw_t49 C hL6 hW hS hl hc hs)
  | 50, _ => lv_tableIn (off := 1931) (tgt := 1964) C.1.1 C.1.2.1 dl_33 (by decide) (by decide) rfl (by decide) (lw_c50 lw_t50 C hL6 hW hS hl hc hs)
  | 51, _ => lv_tableIn (off := 1974) (tgt := 2007) C.1.1 C.1.2.1 dl_33 (by decide) (by decide) rfl (by decide) (lw_c51 lw_t51 C hL6 hW hS hl hc hs)
  | 52, _ => lv_tableIn (off := 2007) (tgt := 2040) C.1.1 C.1.2.1 dl_33 (by decide) (by decide) rfl (by decide) (lw_c52 lw_t52 C hL6 hW hS hl hc hs)
  | 53, _ => lv_tableIn (off := 2050) (tgt := 2083) C.1.1 C.1.2.1 dl_33 (by decide) (by decide) rfl (by decide) (lw_c53 lw_t53 C hL6 hW hS hl hc hs)
  | 54, _ => lv_tableIn (off := 2073) (tgt := 2106) C.1.1 C.1.2.1 dl_33 (by decide) (by decide) rfl (by decide) (lw_c54 lw_t54 C hL6 hW hS hl hc hs)
  | 55, _ => lv_tableIn (off := 2106) (tgt := 2139) C.1.1 C.1.2.1 dl_33 (by decide) (by decide) rfl (by decide) (lw_c55 lw_t55 C hL6 hW hS hl hc hs)
  | 56, _ => lv_tableIn (off := 2129) (tgt := 2162) C.1.1 C.1.2.1 dl_33 (by decide) (by decide) rfl (by decide) (lw_c56 lw_t56 C hL6 hW hS hl hc hs)
  | 57, _ => lv_tableIn (off := 2172) (tgt := 2205) C.1.1 C.1.2.1 dl_33 (by decide) (by decide) rfl (by decide) (lw_c57 lw_t57 C hL6 hW hS hl hc hs)
  | 58, _ => lv_tableIn (off := 2205) (tgt := 2238) C.1.1 C.1.2.1 dl_33 (by decide) (by decide) rfl (by decide) (lw_c58 lw_t58 C hL6 hW hS hl hc hs)
  | 59, _ => lv_tableIn (off := 2238) (tgt := 2271) C.1.1 C.1.2.1 dl_33 (by decide) (by decide) rfl (by decide) (lw_c59 lw_t59 C hL6 hW hS hl hc hs)
  | 60, _ => lv_tableIn (off := 2261) (tgt := 2294) C.1.1 C.1.2.1 dl_33 (by decide) (by decide) rfl (by decide) (lw_c60 lw_t60 C hL6 hW hS hl hc hs)
  | 61, _ => lv_tableIn (off := 2304) (tgt := 2337) C.1.1 C.1.2.1 dl_33 (by decide) (by decide) rfl (by decide) (lw_c61 lw_t61 C hL6 hW hS hl hc hs)
  | 62, _ => lv_tableIn (off := 2317) (tgt := 2350) C.1.1 C.1.2.1 dl_33 (by decide) (by decide) rfl (by decide) (lw_c62 lw_t62 C hL6 hW hS hl hc hs)
  | 63, _ => lv_tableIn (off := 2330) (tgt := 2363) C.1.1 C.1.2.1 dl_33 (by decide) (by decide) rfl (by decide) (lw_c63 lw_t63 C hL6 hW hS hl hc hs)
  | n + 64, h => absurd h (by omega)
theorem lw_short {L : Nat} (hL : L ≤ 6) (h6 : L ≠ 6) : Int32.ofNat L - 6 < 0 := by
  have h : L = 0 ∨ L = 1 ∨ L = 2 ∨ L = 3 ∨ L = 4 ∨ L = 5 := by omega
  rcases h with h | h | h | h | h | h <;> subst h <;> decide
theorem lw_go (hL : L ≤ 6) (C : lw_Cx p s m meth c b L xs D dA) {H : Heap} {locs : List Loc} {cells slots : Nat} {ls : Array Slot} (hW : lw_Wd xs s.heap.size D dA H) (hS : va_S (fun q => s.heap.size ≤ q) s.heap H locs) (hl : lv_has ls 4 [(3, .int 0), (2, .ref (s.heap.size + 740)), (1, .ref s.heap.size), (0, .ref b)]) (hc : cells ≤ 600000) (hs : slots ≤ 7302250) : W p la e room_1 s m #[Value.ref b] below meth c H locs cells slots (lw_Z below #[Value.ref b] s) (F0 m 18 ls []) := by
  by_cases h6 : L = 6
  · subst h6
    have C1 := C
    obtain ⟨⟨hx, hb, hr, hml, hown, hts, hX, hbl, hlocks, hgv⟩, hK, hKA⟩ := C1
    have hbA : ¬ (fun q : Nat => s.heap.size ≤ q) b := Nat.not_le.mpr hbl
    refine lv_iload_n hx hb dl_18 rfl (lv_at hl 0 rfl) ?_
    refine lv_aload_n hx hb dl_19 rfl (lv_at hl 3 rfl) ?_
    refine va_slen hx hb hX hbl hbA hS dl_20 ?_
    refine lv_bipush (v := 6) hx hb dl_21 (by decide) ?_
    refine lv_isub hx hb dl_23 ?_
    refine lv_icmp_gt (tgt := 2392) hx hb dl_24 (by decide) (fun q => absurd q (by decide)) (fun _ => ?_)
    refine lv_aload_n hx hb dl_27 rfl (lv_at hl 3 rfl) ?_
    refine lv_iload_n hx hb dl_28 rfl (lv_at hl 0 rfl) ?_
    refine va_sld hx hb hX hbl hbA hS (show vp_in (0 : Int32) 6 by unfold vp_in; decide) dl_29 ?_
    rw [show (0 : Int32).toNatClampNeg = 0 by decide]
    refine lv_bipush (v := 63) hx hb dl_30 (by decide) ?_
    refine lv_iand hx hb dl_32 ?_
    obtain ⟨j, hj, ej⟩ := pk_andE (xs 0) (m := 63) 6 (by decide)
    rw [ej]
    exact lw_sw C rfl hW hS hl hc hs j hj
  · exact lw_exit C hS (lv_sub (l' := [(3, .int 0), (0, .ref b)]) hl [0, 3] rfl) hc hs (lw_short hL h6)
end LWF
/-- from the entry, for every script of at most 6 ints, the law comes to its end with true ('hflags': the launch's flags, for a law that throws: no stack traces) -/
theorem whole_start {p : Program} {e : Env} {s : State} {m : MethodId} {below : List Frame} {meth : Method} {c : Code} (l : Launch) (hflags : l.flags = flags0) {b L : Nat} {xs : Nat → Int32} (hL : L ≤ 6) (C0 : lw_At p s m meth c b L xs) : W p l e room_1 s m #[Value.ref b] below meth c s.heap [] 0 0 (lw_Z below #[Value.ref b] s) (entryFrame m ([Value.ref b] : List Value).toArray 4) := by
  obtain ⟨D, hK⟩ := lw_K C0.2.2.2.2.2.1
  obtain ⟨dA, hKA, h5⟩ := lw_A C0.2.2.2.2.2.1 C0.2.2.2.2.2.2.2.2.2
  have C : lw_Cx p s m meth c b L xs D dA := ⟨C0, hK, hKA⟩
  exact lw_begin C h5 (fun H locs ls cells slots hW hS hl hc hs => lw_go hL C hW hS hl hc hs)
set_option maxHeartbeats 4000000 in
theorem lw_walk (l : Launch) (hflags : l.flags = flags0) (b : Addr) (xs : List Int32) : MetFree l x (headSpec (Jvm.Cond.code x code maxLocals ret :: tables_1) room_1) (lw_P b xs) (fun _ _ _ _ _ => True) lw_Q := by
  refine MetFree.of_bodyS (code := code) (maxLocals := maxLocals) (ret := ret) (by decide) ?_ ?_
  · intro args s m h hn
    obtain ⟨meth, c, h1, h2, h3, h4, h5, h6, -, -⟩ := Cond.code_spec hn (atoms_spec (ws := Jvm.Cond.code x code maxLocals ret :: tables_1) h _ List.mem_cons_self)
    exact ⟨meth, c, h1, h2, h3, h4, h5, h6⟩
  · intro p e s m args below meth c s₁ B hml0 hP _
    obtain ⟨rfl, hx, hbd, hgv⟩ := hP
    obtain ⟨scr, harrAt, hlist, hof, hsmall⟩ := hx
    obtain ⟨hcb, hkn, -, -⟩ := State.arrayAt?_spec harrAt
    have hown : s.vm.findClass R_law = some m.cls := findClass_of_methodNamed B.named
    have hts0 : ∀ c ∈ (Jvm.Cond.code x code maxLocals ret :: tables_1), c.before #[Value.ref b] s = true := atoms_spec (ws := Jvm.Cond.code x code maxLocals ret :: tables_1) B.pre
    have hts : ∀ w ∈ lw_tbl, w.before #[Value.ref b] s = true := k2_hts_sels lw_privs (fun w hw => hts0 w (List.mem_cons_of_mem _ hw)) lw_privs_ok
    have hml : c.maxLocals = 4 := B.maxLocals_eq (hts0 _ List.mem_cons_self)
    have X₀ : Stand p l e room_1 s m #[Value.ref b] below meth c s₁ [] 0 0 := Stand.of_body B
    have hh0 : s₁.heap = s.heap := by rw [B.state]; rfl
    have hsz : scr.slots.size = xs.length := by rw [← Array.length_toList, hlist, List.length_map]
    have hval : ∀ j : Nat, j < xs.length → scr.slots[j]? = some (.int (xs.getD j 0)) := fun j hj => by
      rw [← Array.getElem?_toList, hlist]
      simp [hj]
    have hbl : b < s.heap.size := (Array.getElem?_eq_some_iff.mp hcb).1
    have hX : va_X b xs.length (fun j => xs.getD j 0) s s.heap := ⟨scr, hcb, hof, hkn, hsz, hval⟩
    have K : W p l e room_1 s m #[Value.ref b] below meth c s₁.heap [] 0 0 (lw_Z below #[Value.ref b] s) (entryFrame m ([Value.ref b] : List Value).toArray 4) := by
      rw [hh0]
      exact whole_start l hflags hbd ⟨B.exec, B.bytes, B.returns, hml, hown, hts, hX, hbl, B.notSynchronized, hgv⟩
    obtain ⟨t, a1, o, b1, b2, b3⟩ := K s₁ rfl X₀
    exact ⟨t, o, a1, b1, b2, b3⟩
theorem lw_pre_spec {args : Array Value} {s : State} (h : (Jvm.Cond.and given_1 narrow_1).before args s = true) (hr : rest_1_c.before args s = true) : ∃ (b : Addr) (xs : List Int32), lw_P b xs args s := by
  have hs := flat_of_before _ h
  have hq := flat_of_before _ hr
  have hc : (Cond.count 1).before args s = true := hs _ (by decide +kernel)
  have harr : (Cond.arrayOf (.arg 0) .int).before args s = true := hs _ (by decide +kernel)
  have hle : (Cond.le (.length (.arg 0)) (.int 6)).before args s = true := hs _ (by decide +kernel)
  have hlen : (Cond.isInt (.length (.arg 0))).before args s = true := hq _ (by decide +kernel)
  have hall : (Cond.all (.arg 0) (.isInt (.elem (.arg 0) (.index 0)))).before args s = true := hq _ (by decide +kernel)
  obtain ⟨b, xs, hb, hx⟩ := State.ints_of_pre rfl harr hlen hall
  have hsm : xs.length < 2 ^ 31 := hx.choose_spec.2.2.2
  have hev : (Term.length (.arg 0)).eval args s none [] s = some (.int xs.length.toInt32) := hx.length_eval hb
  have hv := Cond.le_ints hev (show (Term.int 6).eval args s none [] s = some (.int 6) from rfl)
  have hd : xs.length.toInt32 ≤ 6 := by
    simpa [Cond.before, Cond.holds, hv] using hle
  have hN : xs.length ≤ 6 := (Int32.ofNat_le_ofNat hsm (by decide)).mp (show Int32.ofNat xs.length ≤ Int32.ofNat 6 from hd)
  exact ⟨b, xs, Cond.one_arg hc (show args[0]? = some (.ref b) from hb), hx, hN, h⟩
theorem lw_comes (l : Launch) (hflags : l.flags = flags0) : Comes l x (Jvm.Cond.code x code maxLocals ret :: tables_1) room_1 (fun tb e args s => Calls_1 tb e args s ∧ rest_1 tb e args s ∧ Pre_1 tb e args s)
    (fun _ _ args s o t => lw_Q args s o t) := by
  intro p e ha hc hk s m args below hf hfit hheap happ hpre
  obtain ⟨b, xs, hP⟩ := lw_pre_spec hpre.2.2 hpre.2.1
  obtain ⟨k, o, h1, h2, h3, hQ⟩ := lw_walk l hflags b xs p e ha hc hk s m args below hf ((Spec.applies_iff_loose hf).mp happ).1 hP trivial
  exact ⟨k, o, h1, h2, h3, hQ⟩
theorem lw_frame {s t : State} {o : Outcome} {args : Array Value} (h : Framed s o t [] 600000 7302250) :
    Framed s o t (fieldLocs frame_1_writes args s ++ arrayLocs frame_1_arrays args s ++ staticLocs frame_1_statics s) 600000 7302250 := h
theorem lw_limb (L : Cond) (hL : ∀ (args : Array Value) (s t : State), L.after args s (.returned (some (.int 1))) t = true) :
    ArmFor flags0 classFile x code maxLocals ret World_1 tables_1 room_1 Calls_1 rest_1 Pre_1
      (fun tb e a s o t => postC L tb e a s o t ∧ Framed s o t (fieldLocs frame_1_writes a s ++ arrayLocs frame_1_arrays a s ++ staticLocs frame_1_statics s) 600000 7302250) := by
  intro l hflags _ _ p e ha hc hk s m args below hf hfit hheap happ hpre
  obtain ⟨k, o, h1, h2, h3, rfl, hF⟩ := lw_comes l hflags p e ha hc hk s m args below hf hfit hheap happ hpre
  exact ⟨k, _, h1, h2, h3, hL args s _, lw_frame hF⟩
theorem i_vc : Claimed_1_1 ∧ Claimed_1_2 := ⟨lw_limb limb_1_1 (fun args s t => by simp [limb_1_1, Cond.after, Cond.holds, Cond.value]), lw_limb limb_1_2 (fun args s t => Cond.after_iff.mpr (by
  first | (rw [show limb_1_2 = Cond.eq .result (.int 1) from rfl, Cond.eq_ints (x := 1) (y := 1) rfl rfl]; simp; done) | (simp [limb_1_2, Cond.value, Term.eval]; done)))⟩

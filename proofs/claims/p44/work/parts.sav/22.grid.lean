set_option linter.all false
/-! new int[n][k] (vr_outer is NAMES.whole's row) -/
theorem vr_outer (c : ClassId) (N h0 : Nat) : ∀ i : Nat, Jvm.Free.Multi.outerC c N h0 i = arrV c N (fun j => va_rf (if j < i then some (h0 + 1 + j) else none))
  | 0 => by
    show ({ cls := c, slots := Array.replicate N .null, vm := .none } : Cell) = _
    rw [arrV_new]
    refine congrArg (arrV c N) (funext fun j => ?_)
    simp [va_rf]
  | i + 1 => by
    show (Jvm.Free.Multi.outerC c N h0 i).setSlot i (.ref (h0 + 1 + i)) = _
    rw [vr_outer c N h0 i, arrV_store]
    refine congrArg (arrV c N) (funext fun j => ?_)
    by_cases e : j = i
    · subst e
      simp [updV, va_rf]
    · by_cases h : j < i
      · simp [updV, e, h, Nat.lt_succ_of_lt h]
      · simp [updV, e, h, show ¬ j < i + 1 by omega]
theorem xrefs_of : ∀ {m a : Nat} {k : List xV → Bool}, xrefs m a k = true → ∃ r : List xV, k r = true ∧ r.length = m ∧ ∀ i x, r[i]? = some x → i < m ∧ x = xRef (a + i) := by
  intro m
  induction m with
  | zero => intro a k h; exact ⟨[], h, rfl, fun i x hx => by simp at hx⟩
  | succ m ih =>
    intro a k h
    have h := xfN_of (n := Nat.succ a) (k := fun a' => xrefs m a' (fun l => k (xRef a :: l))) h
    obtain ⟨r, h1, h2, h3⟩ := ih h
    refine ⟨xRef a :: r, h1, by simp [h2], fun i x hx => ?_⟩
    cases i with
    | zero => simp at hx; exact ⟨by omega, by rw [← hx]; rfl⟩
    | succ i =>
      obtain ⟨q1, q2⟩ := h3 i x (by simpa using hx)
      exact ⟨by omega, by rw [q2, show Nat.succ a + i = a + (i + 1) by omega]⟩
theorem xgrid_of {c : xC} : ∀ {m : Nat} {h : xH} {n : Nat} {k : xH → Nat → Bool}, xgrid c m h n k = true → ∃ h' : xH, k h' (n + m) = true ∧ (∀ i, i < m → xat h' (n + i) = some c) ∧ ∀ b, (b < n ∨ n + m ≤ b) → xat h' b = xat h b := by
  intro m
  induction m with
  | zero => intro h n k e; exact ⟨h, e, fun i hi => absurd hi (by omega), fun b _ => rfl⟩
  | succ m ih =>
    intro h n k e
    obtain ⟨h1, e, a1, a2⟩ := xhpush_of (h := h) (n := n) (c := c) (k := fun h => xfN (Nat.succ n) (fun n => xgrid c m h n k)) e
    have e := xfN_of (n := Nat.succ n) (k := fun n => xgrid c m h1 n k) e
    obtain ⟨h2, b1, b2, b3⟩ := ih e
    refine ⟨h2, by rw [show n + (m + 1) = Nat.succ n + m by omega]; exact b1, fun i hi => ?_, fun b hb => ?_⟩
    · cases i with
      | zero => rw [b3 (n + 0) (Or.inl (by omega))]; exact a1
      | succ i => rw [show n + (i + 1) = Nat.succ n + i by omega]; exact b2 i (by omega)
    · rw [b3 b (by omega), a2 b (by omega)]
section XG
variable {ρ : Nat → Int32} {base : Nat} {F : Nat → Prop} {Ts Ns : List Jvm.Cond} {cl : List vw_C} {tys : List FieldType} {D : va_G} {dA : Nat → ClassId} {la : Launch} {okc : xM → List xI → Bool} {Ms : List xM} {ih : xIh} {me : xM} {cs : List xI} {a b : Nat} {l : List Nat} {A : xA} {k : xK} {pc : Nat}
theorem xl_mna {idx : Nat} (IH : xIH ρ base F Ts Ns cl tys D dA la okc Ms ih) (hme : me ∈ Ms) (hok : okc me cs = true) (hn : xatp (pc + 4) cs) (hd : decode me.2.1 pc = .ok (.multianewarray idx 2, 4)) (hty : tys[0]? = some .int) (hty2 : tys[2]? = some (.array .int)) (h1 : Jvm.Cond.classLink me.1.cls idx ("[" ++ (FieldType.array .int).toString) ∈ Ts) (h2 : Jvm.Cond.arrayClass .int ∈ Ts) (h : xo_mna ih me cs a b l A k = true) : xGd ρ base F Ts Ns cl tys D dA la me pc A k := by
  obtain ⟨lv, st0, env, hp, n, uc, us⟩ := A
  match st0, h with
  | .inl w :: .inl m' :: st, h =>
    unfold xo_mna at h
    obtain ⟨hr, h0⟩ := xcond h
    clear h
    have hw := xblt.mp (xand (xand hr).1).1
    have hm := xblt.mp (xand (xand hr).1).2
    have hc : uc + (m' + 1) ≤ (xR me).cells := Nat.le_of_ble_eq_true (xand (xand hr).2).1
    have hs : us + (m' + m' * w) ≤ (xR me).slots := Nat.le_of_ble_eq_true (xand (xand hr).2).2
    obtain ⟨r1, h, l1, f1⟩ := xrefs_of h0
    obtain ⟨r2, h, l2, f2⟩ := xrefs_of h
    obtain ⟨hp1, h, a1, a2⟩ := xhpush_of h
    obtain ⟨fs0, h, hfs0⟩ := xrows_of h
    obtain ⟨hp2, h, b1, b2⟩ := xgrid_of h
    have h := xfN_of h
    have h := xfN_of h
    have h := xfN_of h
    intro p e s m args below meth c X H locs ls stc hI hL
    obtain ⟨v1, stc, rfl, g1, hst1⟩ := xSR_cons hI.2.2.1
    obtain ⟨v2, stc, rfl, g2, hst⟩ := xSR_cons hst1
    cases g1; cases g2
    have X0 := X
    obtain ⟨hx, hbc, hml, _, _, _, hown, hts, _, _, hKA⟩ := X
    have hsz : H.size = base + n := hI.2.2.2.1.1.1
    have cw := xclamp (show w < 2147483648 by omega)
    have cm := xclamp (show m' < 2147483648 by omega)
    intro T hT S
    have hmw : m' * w ≤ 128 * 1000 := Nat.mul_le_mul (by omega) (by omega)
    obtain ⟨vm₁, cA, comp, -, fA, fC, -, -, X', step⟩ := S.multianewarray2F hx (ty := .int) hown (hts _ (List.mem_cons_of_mem _ h1)) (xAO.use hKA.2.1) (hts _ (List.mem_cons_of_mem _ h2)) (g := F0 m pc ls (.int (nI w) :: .int (nI m') :: stc)) rfl (by rw [hbc]; exact hd) rfl (xneg (by omega)) (xneg (by omega)) (by rw [cm]; omega) (by rw [cw]; show w * 4 ≤ _; omega) (by rw [cw]; omega) rfl rfl (by rw [cm]; show uc + (1 + m') ≤ _; omega) (by rw [cm, cw]; exact hs)
    rw [cm, cw] at X' step
    have ecA : cA = dA 2 := Option.some.inj (fA.symm.trans (hKA.1 _ _ hty2).2)
    have ecp : comp = dA 0 := Option.some.inj (fC.symm.trans (hKA.1 _ _ hty).2)
    subst ecA
    subst ecp
    generalize hF : Jvm.Free.Multi.fill (T.setVm vm₁) (dA 2) (dA 0) m' w (defaultValue .int) m' = G9 at X' step
    have hTh : (T.setVm vm₁).heap = H := hT
    obtain ⟨z1, z2, -, -⟩ := Jvm.Free.Multi.fill_facts (T.setVm vm₁) (dA 2) (dA 0) m' w (defaultValue .int) m'
    rw [hF, hTh] at z1 z2
    have hold : ∀ x : Nat, x < H.size → G9.heap[x]? = H[x]? := fun x hx => by
      have := Jvm.Free.Multi.fill_old (T.setVm vm₁) (dA 2) (dA 0) m' w (defaultValue .int) (a := x) (by rw [hTh]; exact hx) m'
      rw [hF, hTh] at this
      exact this
    have hrow : ∀ j : Nat, j < m' → G9.heap[H.size + 1 + j]? = some (arrV (dA 0) (List.replicate w (Value.int 0)).length (vp_V (List.replicate w (Value.int 0)))) := fun j hj => by
      have := Jvm.Free.Multi.fill_inner (T.setVm vm₁) (dA 2) (dA 0) m' w (defaultValue .int) m' j hj
      rw [hF, hTh] at this
      rw [this]
      exact congrArg some (xrepV w (.int 0) (dA 0))
    let fsO : List Value := (List.range m').map (fun j => Value.ref (H.size + 1 + j))
    have hfl : fsO.length = m' := by simp [fsO]
    have hout : G9.heap[H.size]? = some (arrV (dA 2) fsO.length (vp_V fsO)) := by
      rw [z2, vr_outer, hfl]
      refine congrArg some ?_
      unfold arrV
      congr 1
      apply Array.ext
      · simp
      · intro i q1 q2
        have hi : i < m' := by simpa using q1
        simp [hi, va_rf, vp_V, fsO]
    have hH1 : xHR ρ base F D dA tys cl hp2 (n + 1 + m') G9.heap := by
      refine ⟨⟨by rw [z1, hsz]; omega, fun b d hb => ?_, fun q hq => hI.2.2.2.1.1.2.2.1 q (by show base + n ≤ q; omega), hI.2.2.2.1.1.2.2.2⟩, fun b d hb => ?_⟩
      · rcases Nat.lt_or_ge b n with q | q
        · rw [b2 b (Or.inl (by show b < n + 1; omega)), a2 b (by omega)] at hb
          exact hI.2.2.2.1.1.2.1 b d hb
        · exact hI.2.2.2.1.1.2.2.1 _ (by show base + n ≤ base + b; omega)
      rcases Nat.lt_or_ge b n with q | q
      · rw [b2 b (Or.inl (by show b < n + 1; omega)), a2 b (by omega)] at hb
        have h3 := hI.2.2.2.1.2 b d hb
        exact h3.kept (hold _ h3.lt)
      · rcases Nat.lt_or_ge b (n + 1) with q2 | q2
        · have e : b = n := by omega
          subst e
          rw [b2 b (Or.inl (by show b < b + 1; omega)), a1] at hb
          cases hb
          refine ⟨fsO, ⟨hfl, fun i x hx => ?_⟩, Or.inr ⟨by show 100 ≤ 102; omega, by rw [← hsz]; exact hout, _, hty2, fun v hv => ?_⟩⟩
          · have hx : (([r1, r2] : List (List xV))[i / 64]?).bind (fun r => r[i % 64]?) = some x := hx
            have e2 := xdm i
            have hm64 := Nat.mod_lt i (show 0 < 64 by decide)
            have key : i < m' ∧ x = xRef (b + 1 + i) := by
              rcases Nat.lt_or_ge (i / 64) 1 with q3 | q3
              · rw [show i / 64 = 0 by omega] at hx
                obtain ⟨k1, k2⟩ := f1 (i % 64) x hx
                have k1 : i % 64 < (cond (Nat.ble m' 64) m' 64) := k1
                refine ⟨?_, by rw [k2, show Nat.succ b + i % 64 = b + 1 + i by omega]⟩
                cases hb6 : Nat.ble m' 64 with
                | true => rw [hb6] at k1; have k1 : i % 64 < m' := k1; omega
                | false =>
                  have : ¬ m' ≤ 64 := fun q => by rw [Nat.ble_eq_true_of_le q] at hb6; cases hb6
                  omega
              · rcases Nat.lt_or_ge (i / 64) 2 with q4 | q4
                · rw [show i / 64 = 1 by omega] at hx
                  obtain ⟨k1, k2⟩ := f2 (i % 64) x hx
                  have k1 : i % 64 < m' - 64 := k1
                  exact ⟨by omega, by rw [k2, show Nat.add (Nat.succ b) 64 + i % 64 = b + 1 + i by show b + 1 + 64 + i % 64 = _; omega]⟩
                · rw [List.getElem?_eq_none (by simpa using q4)] at hx
                  cases hx
            obtain ⟨k1, rfl⟩ := key
            exact ⟨.ref (H.size + 1 + i), by simp [fsO, k1], by show Value.ref (H.size + 1 + i) = .ref (base + (b + 1 + i)); exact congrArg Value.ref (show (H.size + 1 + i : Nat) = base + (b + 1 + i) by omega)⟩
          · obtain ⟨j, -, rfl⟩ := List.mem_map.mp hv
            rfl
        · rcases Nat.lt_or_ge b (n + 1 + m') with q3 | q3
          · have e : b = n + 1 + (b - (n + 1)) := by omega
            have hb9 := b1 (b - (n + 1)) (by omega)
            have hb9 : xat hp2 (n + 1 + (b - (n + 1))) = some (100, w, fs0) := hb9
            rw [← e] at hb9
            rw [hb9] at hb
            cases hb
            have hr9 := hrow (b - (n + 1)) (by omega)
            rw [show H.size + 1 + (b - (n + 1)) = base + b by omega] at hr9
            exact ⟨_, xFR_rep hfs0 rfl, Or.inr ⟨Nat.le_refl _, hr9, _, hty, fun v hv => by rw [List.eq_of_mem_replicate hv]; rfl⟩⟩
          · rw [b2 b (Or.inr (by show n + 1 + m' ≤ b; omega)), a2 b (by omega)] at hb
            have h3 := hI.2.2.2.1.2 b d hb
            have := h3.lt
            omega
    have g := IH me cs (lv, xRef n :: st, env, hp2, n + 1 + m', uc + (m' + 1), us + (m' + m' * w)) k (pc + 4) hme h hok hn p e s m args below meth c X0 G9.heap locs ls (.ref (base + n) :: stc) ⟨hI.1, hI.2.1, ⟨rfl, hst⟩, hH1, hc, hs⟩ (xSpush hL (by rw [z1]; omega) hold)
    have X'' : Stand p la e (xR me) s m args below meth c G9 locs (uc + (m' + 1)) (us + (m' + m' * w)) := by
      rw [show uc + (m' + 1) = uc + 1 + m' by omega, show us + (m' + m' * w) = us + m' + m' * w by omega]
      exact X'
    obtain ⟨t, c1, c2⟩ := g G9 rfl X''
    refine ⟨t, step t ?_, c2⟩
    have eh : T.heap.size = base + n := by rw [hT, hsz]
    rw [eh]
    exact c1
  | [], h => exact absurd h (by simp [xo_mna])
  | [_], h => exact absurd h (by simp [xo_mna])
  | .inr _ :: _ :: _, h => exact absurd h (by simp [xo_mna])
  | .inl _ :: .inr _ :: _, h => exact absurd h (by simp [xo_mna])
end XG

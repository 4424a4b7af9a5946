set_option linter.all false
/-! contracts (written by gen95.py) -/
abbrev wz_5557d : List Nat := [208]
abbrev wz_56c9a : List Nat := [207]
abbrev wz_5ef89 : List Nat := [748, 749]
abbrev wz_3c4d3 : List Nat := [748]
abbrev wz_de755 : List Nat := [26, 172]
theorem x6_430 : f60c xTc xTys xm_430 = true := by decide +kernel
theorem x6_144 : f60c xTc xTys xm_144 = true := by decide +kernel
theorem x6_431 : f60c xTc xTys xm_431 = true := by decide +kernel
abbrev wz_7d09b : List Nat := [207, 208]
theorem x6_147 : f60c xTc xTys xm_147 = true := by decide +kernel
abbrev wz_8a11b : List Nat := [207, 208, 209]
theorem x6_146 : f60c xTc xTys xm_146 = true := by decide +kernel
theorem fb_177_4 : bsJ 177 4 = (0, 24) := by decide +kernel
theorem rS_209_209_0_23_1_0 : frS gJ bsJ znJ [209] 100 ((209, 209), (0, 23), (1, 0), ((-2147483648), 2147483647)) := frS_dflt (by decide) (by decide +kernel)
theorem rL_209_209_0_23_1_0 : frL gJ bsJ 100 ((209, 209), (0, 23), (1, 0), ((-2147483648), 2147483647)) := frL_hull (by decide) (by decide +kernel)
theorem x6_145 : f60c xTc xTys xm_145 = true := by decide +kernel
abbrev wz_0adc5 : List Nat := [748, 749, 750]
theorem x6_432 : f60c xTc xTys xm_432 = true := by decide +kernel
theorem fb_741_8 : bsJ 741 8 = (0, 24) := by decide +kernel
theorem fb_741_9 : bsJ 741 9 = (0, 12) := by decide +kernel
theorem rL_741_741_8_8_1_0 : frL gJ bsJ 100 ((741, 741), (8, 8), (1, 0), (0, 24)) := frL_of (by decide +kernel)
theorem rL_750_750_0_23_1_0 : frL gJ bsJ 100 ((750, 750), (0, 23), (1, 0), ((-2147483648), 2147483647)) := frL_hull (by decide) (by decide +kernel)
theorem rS_750_750_0_23_1_0 : frS gJ bsJ znJ [750] 100 ((750, 750), (0, 23), (1, 0), ((-2147483648), 2147483647)) := frS_dflt (by decide) (by decide +kernel)
abbrev wz_3d14b : List Nat := [210]
theorem x6_152 : f60c xTc xTys xm_152 = true := by decide +kernel
theorem fb_163_13 : bsJ 163 13 = (0, 24) := by decide +kernel
theorem rS_210_210_0_23_1_0 : frS gJ bsJ znJ [210] 100 ((210, 210), (0, 23), (1, 0), ((-2147483648), 2147483647)) := frS_dflt (by decide) (by decide +kernel)
theorem rL_210_210_0_23_1_0 : frL gJ bsJ 100 ((210, 210), (0, 23), (1, 0), ((-2147483648), 2147483647)) := frL_hull (by decide) (by decide +kernel)
theorem x6_151 : f60c xTc xTys xm_151 = true := by decide +kernel
theorem rL_164_164_0_23_1_0 : frL gJ bsJ 100 ((164, 164), (0, 23), (1, 0), (0, 6)) := frL_of (by decide +kernel)
theorem rL_166_166_0_23_1_0 : frL gJ bsJ 100 ((166, 166), (0, 23), (1, 0), (0, 9999)) := frL_of (by decide +kernel)
theorem rL_168_168_0_23_1_0 : frL gJ bsJ 100 ((168, 168), (0, 23), (1, 0), (0, 100)) := frL_of (by decide +kernel)
theorem rL_165_165_0_23_1_0 : frL gJ bsJ 100 ((165, 165), (0, 23), (1, 0), (0, 19)) := frL_of (by decide +kernel)
theorem rL_171_171_0_23_1_0 : frL gJ bsJ 100 ((171, 171), (0, 23), (1, 0), (0, 99999)) := frL_of (by decide +kernel)
theorem rL_172_172_0_23_1_0 : frL gJ bsJ 100 ((172, 172), (0, 23), (1, 0), (0, 99999)) := frL_of (by decide +kernel)
theorem x6_150 : f60c xTc xTys xm_150 = true := by decide +kernel
abbrev wz_b4fc8 : List Nat := [207, 208, 210]
theorem x6_149 : f60c xTc xTys xm_149 = true := by decide +kernel
theorem x6_148 : f60c xTc xTys xm_148 = true := by decide +kernel
theorem x6_435 : f60c xTc xTys xm_435 = true := by decide +kernel
theorem rL_741_741_530_852_14_0 : frL gJ bsJ 100 ((741, 741), (530, 852), (14, 0), (0, 6)) := frL_of (by decide +kernel)
theorem rS_748_748_0_127_1_0 : frS gJ bsJ znJ [748] 100 ((748, 748), (0, 127), (1, 0), ((-2147483648), 2147483647)) := frS_dflt (by decide) (by decide +kernel)
theorem rL_741_741_532_854_14_0 : frL gJ bsJ 100 ((741, 741), (532, 854), (14, 0), (0, 9999)) := frL_of (by decide +kernel)
theorem rL_741_741_534_856_14_0 : frL gJ bsJ 100 ((741, 741), (534, 856), (14, 0), (0, 100)) := frL_of (by decide +kernel)
theorem rL_741_741_531_853_14_0 : frL gJ bsJ 100 ((741, 741), (531, 853), (14, 0), (0, 19)) := frL_of (by decide +kernel)
theorem rL_741_741_535_857_14_0 : frL gJ bsJ 100 ((741, 741), (535, 857), (14, 0), (0, 99999)) := frL_of (by decide +kernel)
theorem rL_741_741_536_858_14_0 : frL gJ bsJ 100 ((741, 741), (536, 858), (14, 0), (0, 99999)) := frL_of (by decide +kernel)
abbrev wz_c83f0 : List Nat := [748, 749, 751, 752]
theorem x6_434 : f60c xTc xTys xm_434 = true := by decide +kernel
theorem fb_741_7 : bsJ 741 7 = (0, 24) := by decide +kernel
theorem rL_741_741_7_7_1_0 : frL gJ bsJ 100 ((741, 741), (7, 7), (1, 0), (0, 24)) := frL_of (by decide +kernel)
theorem rS_752_752_0_23_1_0 : frS gJ bsJ znJ [752] 100 ((752, 752), (0, 23), (1, 0), ((-2147483648), 2147483647)) := frS_dflt (by decide) (by decide +kernel)
theorem rS_751_751_0_23_1_0 : frS gJ bsJ znJ [751] 100 ((751, 751), (0, 23), (1, 0), (0, 23)) := frS_of (by decide +kernel)
theorem rL_752_752_0_23_1_0 : frL gJ bsJ 100 ((752, 752), (0, 23), (1, 0), ((-2147483648), 2147483647)) := frL_hull (by decide) (by decide +kernel)
theorem rL_751_751_0_23_1_0 : frL gJ bsJ 100 ((751, 751), (0, 23), (1, 0), (0, 23)) := frL_of (by decide +kernel)
theorem x6_433 : f60c xTc xTys xm_433 = true := by decide +kernel
abbrev wz_a5b5b : List Nat := [26, 172, 174]
theorem x6_154 : f60c xTc xTys xm_154 = true := by decide +kernel
theorem rS_174_174_0_23_1_0 : frS gJ bsJ znJ [174] 100 ((174, 174), (0, 23), (1, 0), (0, 1)) := frS_of (by decide +kernel)
abbrev wz_9b72b : List Nat := [26, 172, 174, 207, 208, 210]
theorem x6_153 : f60c xTc xTys xm_153 = true := by decide +kernel
section CT
variable {ρ : Nat → Int32} {base n : Nat} {F : Nat → Prop} {D : va_G} {dA : Nat → ClassId} {la : Launch}
theorem ct_X_within_c27b1 {I : fH} {x0 : Int} {x1 : Int} {x2 : Int} (h0 : fB bsJ I) (ha0 : ((-2147483648) ≤ x0 ∧ x0 ≤ 2147483647)) (ha1 : ((-1000000001) ≤ x1 ∧ x1 ≤ 10)) (ha2 : ((-1000000001) ≤ x2 ∧ x2 ≤ 999999)) : fC ρ base n F xTc vwCl xTys D dA la gJ (fbz bsJ znJ (fKc []) I) xm_13 [.inl x0, .inl x1, .inl x2] I (fun _ r => ∃ z, r = some (.inl z) ∧ ((z = 1 ∧ x1 ≤ x0 ∧ x0 ≤ x2) ∨ (z = 0 ∧ (x0 < x1 ∨ x2 < x0)))) := sorry
theorem ct_M_isIn_27230 {I : fH} {x0 : Int} {x1 : Int} {x2 : Int} (h0 : fB bsJ I) (ha0 : ((-2147483648) ≤ x0 ∧ x0 ≤ 2147483647)) (ha1 : ((-100000) ≤ x1 ∧ x1 ≤ 97)) (ha2 : ((-1) ≤ x2 ∧ x2 ≤ 999999)) : fC ρ base n F xTc vwCl xTys D dA la gJ (fbz bsJ znJ (fKc []) I) xm_238 [.inr (.inl x0), .inr (.inl x1), .inr (.inl x2)] I (fun _ r => ∃ z, r = some (.inl z) ∧ ((z = 1 ∧ x1 ≤ x0 ∧ x0 ≤ x2) ∨ (z = 0 ∧ (x0 < x1 ∨ x2 < x0)))) := sorry
theorem ct_People_isDead_edb17 {I : fH} {x1 : Int} (h0 : fB bsJ I) (ha1 : (0 ≤ x1 ∧ x1 ≤ 23)) : fC ρ base n F xTc vwCl xTys D dA la gJ (fbz bsJ znJ (fKc []) I) xm_21 [.inr (.inr (some 177)), .inl x1] I (fun _ r => ∃ z, r = some (.inl z) ∧ (0 ≤ z ∧ z ≤ 1) ∧ ((z = 1 ∧ sDd (cR 0 I) x1) ∨ (z = 0 ∧ ¬ sDd (cR 0 I) x1))) := sorry
theorem ct_People_livingIn_ff6d0 {I : fH} {x1 : Int} (h0 : fB bsJ I) (ha1 : (0 ≤ x1 ∧ x1 ≤ 19)) : fC ρ base n F xTc vwCl xTys D dA la gJ (fbz bsJ znJ (fKc []) I) xm_20 [.inr (.inr (some 177)), .inl x1] I (fun _ r => ∃ z, r = some (.inl z) ∧ (0 ≤ z ∧ z ≤ 24) ∧ (z = sm (sLc (cR 0 I) x1) (gt (cR 0 I) 8).toNat)) := sorry
theorem ct_M_workAt_83d38 {I : fH} {x1 : Int} (h0 : fB bsJ I) (ha1 : (0 ≤ x1 ∧ x1 ≤ 23)) : fC ρ base n F xTc vwCl xTys D dA la gJ (fbz bsJ znJ (fKc []) I) xm_244 [.inr (.inr (some 740)), .inl x1] I (fun _ r => ∃ z, r = some (.inl z) ∧ (z = 530 + 14 * x1)) := sorry
theorem ct_M_isDead_21e1a {I : fH} {x1 : Int} (h0 : fB bsJ I) (ha1 : (0 ≤ x1 ∧ x1 ≤ 23)) : fC ρ base n F xTc vwCl xTys D dA la gJ (fbz bsJ znJ (fKc []) I) xm_248 [.inr (.inr (some 740)), .inl x1] I (fun _ r => ∃ z, r = some (.inl z) ∧ (0 ≤ z ∧ z ≤ 1) ∧ ((z = 1 ∧ sDd (mR I) x1) ∨ (z = 0 ∧ ¬ sDd (mR I) x1))) := sorry
theorem ct_M_peopleIn_76ab1 {I : fH} {x1 : Int} (h0 : fB bsJ I) (ha1 : (0 ≤ x1 ∧ x1 ≤ 19)) : fC ρ base n F xTc vwCl xTys D dA la gJ (fbz bsJ znJ (fKc []) I) xm_246 [.inr (.inr (some 740)), .inl x1] I (fun _ r => ∃ z, r = some (.inl z) ∧ (0 ≤ z ∧ z ≤ 24) ∧ (z = sm (sLc (mR I) x1) (gt (mR I) 8).toNat)) := sorry
theorem ct_M_isGone_0de37 {I : fH} {x1 : Int} (h0 : fB bsJ I) (ha1 : (0 ≤ x1 ∧ x1 ≤ 23)) : fC ρ base n F xTc vwCl xTys D dA la gJ (fbz bsJ znJ (fKc []) I) xm_245 [.inr (.inr (some 740)), .inl x1] I (fun _ r => ∃ z, r = some (.inl z) ∧ (0 ≤ z ∧ z ≤ 1) ∧ ((z = 1 ∧ gt (mR I) (538 + 14 * x1) = 1) ∨ (z = 0 ∧ gt (mR I) (538 + 14 * x1) = 0))) := sorry
theorem ct_City_isPerson_ff059 {I : fH} {x1 : Int} (h0 : fB bsJ I) (ha1 : ((-2147483648) ≤ x1 ∧ x1 ≤ 2147483647)) : fC ρ base n F xTc vwCl xTys D dA la gJ (fbz bsJ znJ (fKc []) I) xm_27 [.inr (.inr (some 1)), .inl x1] I (fun _ r => ∃ z, r = some (.inl z) ∧ (((z = 1 ∧ 0 ≤ x1 ∧ x1 ≤ 23) ∨ z = 0) ∧ ((z = 1 ∧ 0 ≤ x1 ∧ x1 < I 177 4) ∨ (z = 0 ∧ ¬ (0 ≤ x1 ∧ x1 < I 177 4))))) := sorry
theorem ct_City_hour_b7a7b {I : fH}  (h0 : fB bsJ I)  : fC ρ base n F xTc vwCl xTys D dA la gJ (fbz bsJ znJ (fKc []) I) xm_32 [.inr (.inr (some 1))] I (fun _ r => ∃ z, r = some (.inl z) ∧ ((-2147483648) ≤ z ∧ z ≤ 2147483647) ∧ (z = sHr (cR 0 I))) := sorry
theorem ct_Charter_worth_04d20 {I : fH} {x1 : Int} (h0 : fB bsJ I) (ha1 : (0 ≤ x1 ∧ x1 ≤ 11)) (hp0 : okL (cLw 0 I)) (hp1 : x1 < (cLw 0 I).n) : fC ρ base n F xTc vwCl xTys D dA la gJ (fbz bsJ znJ (fKc wz_5557d) I) xm_36 [.inr (.inr (some 187)), .inl x1] I (fun _ r => ∃ z, r = some (.inl z) ∧ ((-2147483648) ≤ z ∧ z ≤ 2147483647) ∧ (z = wthT (cLw 0 I) (fun i => I 207 i) x1)) := sorry
theorem ct_Charter_counting_8f92c {I : fH} {x1 : Int} {x2 : Int} (h0 : fB bsJ I) (ha1 : (0 ≤ x1 ∧ x1 ≤ 5)) (ha2 : ((-2147483648) ≤ x2 ∧ x2 ≤ 2147483647)) (hp0 : okL (cLw 0 I)) : fC ρ base n F xTc vwCl xTys D dA la gJ (fbz bsJ znJ (fKc []) I) xm_34 [.inr (.inr (some 187)), .inl x1, .inl x2] I (fun _ r => ∃ z, r = some (.inl z) ∧ ((0 ≤ z ∧ z ≤ 11) ∨ z = (-1000000005)) ∧ (cnZ (cLw 0 I) x1 x2 z)) := sorry
theorem ct_Charter_put_c2709 {I : fH} {x1 : Int} {x2 : Int} (h0 : fB bsJ I) (ha1 : (97 ≤ x1 ∧ x1 ≤ 121)) (ha2 : (0 ≤ x2 ∧ x2 ≤ 2399976)) : fC ρ base n F xTc vwCl xTys D dA la gJ (fbz bsJ znJ (fKc wz_56c9a) I) xm_30 [.inr (.inr (some 187)), .inl x1, .inl x2] I (fun I' r => r = none ∧ True ∧ (I' 207 = pn (I 207) (x1 - 97).toNat x2)) := sorry
theorem ct_City_level_61deb {I : fH}  (h0 : fB bsJ I)  : fC ρ base n F xTc vwCl xTys D dA la gJ (fbz bsJ znJ (fKc []) I) xm_31 [.inr (.inr (some 1))] I (fun _ r => ∃ z, r = some (.inl z) ∧ (0 ≤ z ∧ z ≤ 60) ∧ (z = sLv (cR 0 I))) := sorry
theorem ct_Charter_putOne_99949 {I : fH} {x2 : Int} (h0 : fB bsJ I) (ha2 : (0 ≤ x2 ∧ x2 ≤ 23)) : fC ρ base n F xTc vwCl xTys D dA la gJ (fbz bsJ znJ (fKc wz_56c9a) I) xm_29 [.inr (.inr (some 187)), .inr (.inr (some 1)), .inl x2] I (fun I' r => r = none ∧ True ∧ (I' 207 = nmPs (cR 0 I) x2 (I 207)) ∧ (cR 0 I' = cR 0 I)) := sorry
theorem ct_M_isLock_5e2b8 {I : fH} {x1 : Int} (h0 : fB bsJ I) (ha1 : ((-2147483648) ≤ x1 ∧ x1 ≤ 2147483647)) : fC ρ base n F xTc vwCl xTys D dA la gJ (fbz bsJ znJ (fKc []) I) xm_251 [.inr (.inr (some 740)), .inl x1] I (fun _ r => ∃ z, r = some (.inl z) ∧ (((z = 1 ∧ 0 ≤ x1 ∧ x1 ≤ 23) ∨ z = 0) ∧ ((z = 1 ∧ 0 ≤ x1 ∧ x1 < I 741 6) ∨ (z = 0 ∧ ¬ (0 ≤ x1 ∧ x1 < I 741 6))))) := sorry
theorem ct_M_worked_0bc29 {I : fH} {x1 : Int} (h0 : fB bsJ I) (ha1 : (0 ≤ x1 ∧ x1 ≤ 11)) (hp0 : sI I 741) (hp1 : x1 < I 741 9) (hp2 : okL (mLw 741 I)) (hp3 : okE 741 I) (hp4 : x1 < (mLw 741 I).n) : fC ρ base n F xTc vwCl xTys D dA la gJ (fbz bsJ znJ (fKc wz_5ef89) I) xm_259 [.inr (.inr (some 740)), .inl x1] I (fun _ r => ∃ z, r = some (.inl z) ∧ ((-2147483648) ≤ z ∧ z ≤ 2147483647) ∧ (z = wthT (mLw 741 I) (nmW I) x1)) := sorry
theorem ct_M_counts_1278f {I : fH} {x1 : Int} (h0 : fB bsJ I) (ha1 : (0 ≤ x1 ∧ x1 ≤ 5)) : fC ρ base n F xTc vwCl xTys D dA la gJ (fbz bsJ znJ (fKc []) I) xm_254 [.inr (.inr (some 740)), .inl x1] I (fun _ r => ∃ z, r = some (.inl z) ∧ (((-1) ≤ z ∧ z ≤ 11) ∧ (z < I 741 9)) ∧ (z = cnT (mLw 741 I) x1 (sHr (mR I)))) := sorry
theorem ct_M_nameOne_43c7d {I : fH} {x1 : Int} (h0 : fB bsJ I) (ha1 : (0 ≤ x1 ∧ x1 ≤ 23)) : fC ρ base n F xTc vwCl xTys D dA la gJ (fbz bsJ znJ (fKc wz_3c4d3) I) xm_258 [.inr (.inr (some 740)), .inl x1] I (fun I' r => r = none ∧ True ∧ (I' 748 = nmQ (mR I) x1 (I 748)) ∧ (mR I' = mR I)) := sorry
theorem ct_M_mayOpen_42d58 {I : fH} {x1 : Int} {x2 : Int} (h0 : fB bsJ I) (ha1 : (0 ≤ x1 ∧ x1 ≤ 23)) (ha2 : (0 ≤ x2 ∧ x2 ≤ 23)) (hp0 : sI I 741) (hp1 : okL (mLw 741 I)) (hp2 : okE 741 I) : fC ρ base n F xTc vwCl xTys D dA la gJ (fbz bsJ znJ (fKc wz_5ef89) I) xm_253 [.inr (.inr (some 740)), .inl x1, .inl x2] I (fun I' r => ∃ z, r = some (.inl z) ∧ (0 ≤ z ∧ z ≤ 1) ∧ ((z = 1 ∧ alw (mLw 741 I) 1 (sHr (mR I)) (nmO (mR I) x1 x2)) ∨ (z = 0 ∧ ¬ alw (mLw 741 I) 1 (sHr (mR I)) (nmO (mR I) x1 x2))) ∧ (mR I' = mR I)) := sorry
theorem ct_M_isPerson_4d30c {I : fH} {x1 : Int} (h0 : fB bsJ I) (ha1 : ((-2147483648) ≤ x1 ∧ x1 ≤ 2147483647)) : fC ρ base n F xTc vwCl xTys D dA la gJ (fbz bsJ znJ (fKc []) I) xm_252 [.inr (.inr (some 740)), .inl x1] I (fun _ r => ∃ z, r = some (.inl z) ∧ (((z = 1 ∧ 0 ≤ x1 ∧ x1 ≤ 23) ∨ z = 0) ∧ ((z = 1 ∧ 0 ≤ x1 ∧ x1 < I 741 8) ∨ (z = 0 ∧ ¬ (0 ≤ x1 ∧ x1 < I 741 8))))) := sorry
theorem ct_M_orNone_a2a87 {I : fH} {x0 : Int} (h0 : fB bsJ I) (ha0 : ((-2147483648) ≤ x0 ∧ x0 ≤ 2147483647)) : fC ρ base n F xTc vwCl xTys D dA la gJ (fbz bsJ znJ (fKc []) I) xm_269 [.inl x0] I (fun _ r => ∃ z, r = some (.inl z) ∧ ((0 ≤ z ∧ z ≤ 2147483647) ∨ z = (-1000000005)) ∧ (z = orN x0)) := sorry
theorem ct_Works_isGone_6681e {I : fH} {x1 : Int} (h0 : fB bsJ I) (ha1 : (0 ≤ x1 ∧ x1 ≤ 23)) : fC ρ base n F xTc vwCl xTys D dA la gJ (fbz bsJ znJ (fKc []) I) xm_50 [.inr (.inr (some 163)), .inl x1] I (fun _ r => ∃ z, r = some (.inl z) ∧ (0 ≤ z ∧ z ≤ 1) ∧ ((z = 1 ∧ gt (cR 0 I) (538 + 14 * x1) = 1) ∨ (z = 0 ∧ gt (cR 0 I) (538 + 14 * x1) = 0))) := sorry
theorem ct_Works_isSkin_801f8 {I : fH} {x1 : Int} (h0 : fB bsJ I) (ha1 : (0 ≤ x1 ∧ x1 ≤ 23)) : fC ρ base n F xTc vwCl xTys D dA la gJ (fbz bsJ znJ (fKc []) I) xm_64 [.inr (.inr (some 163)), .inl x1] I (fun _ r => ∃ z, r = some (.inl z) ∧ (0 ≤ z ∧ z ≤ 1) ∧ ((z = 1 ∧ gt (cR 0 I) (530 + 14 * x1) = 1 ∧ gt (cR 0 I) (538 + 14 * x1) = 0) ∨ (z = 0 ∧ ¬ (gt (cR 0 I) (530 + 14 * x1) = 1 ∧ gt (cR 0 I) (538 + 14 * x1) = 0)))) := sorry
theorem ct_City_loseGas_68982 {I : fH} {x1 : Int} {x2 : Int} (h0 : fB bsJ I) (ha1 : (0 ≤ x1 ∧ x1 ≤ 23)) (ha2 : (0 ≤ x2 ∧ x2 ≤ 99999)) (hp0 : 0 ≤ x2) (hp1 : x2 ≤ I 172 x1.toNat) : fC ρ base n F xTc vwCl xTys D dA la gJ (fbz bsJ znJ (fKc wz_de755) I) xm_81 [.inr (.inr (some 1)), .inl x1, .inl x2] I (fun I' r => r = none ∧ True ∧ (cR 0 I' = sLs (cR 0 I) x1 x2)) := sorry
theorem ct_M_least_31c1d {I : fH} {x0 : Int} {x1 : Int} (h0 : fB bsJ I) (ha0 : (0 ≤ x0 ∧ x0 ≤ 2147483647)) (ha1 : ((-2147483648) ≤ x1 ∧ x1 ≤ 2147483647)) : fC ρ base n F xTc vwCl xTys D dA la gJ (fbz bsJ znJ (fKc []) I) xm_291 [.inl x0, .inl x1] I (fun _ r => ∃ z, r = some (.inl z) ∧ (((-2147483648) ≤ z ∧ z ≤ 2147483647) ∧ (z ≤ x0 ∧ z ≤ x1 ∧ (z = x0 ∨ z = x1)))) := sorry
theorem ct_M_mayBirth_669a5 {I : fH}  (h0 : fB bsJ I) (hp0 : sI I 741) (hp1 : okL (mLw 741 I)) (hp2 : okE 741 I) : fC ρ base n F xTc vwCl xTys D dA la gJ (fbz bsJ znJ (fKc wz_5ef89) I) xm_309 [.inr (.inr (some 740))] I (fun I' r => ∃ z, r = some (.inl z) ∧ (0 ≤ z ∧ z ≤ 1) ∧ ((z = 1 ∧ alw (mLw 741 I) 3 (sHr (mR I)) (nmB (mR I))) ∨ (z = 0 ∧ ¬ alw (mLw 741 I) 3 (sHr (mR I)) (nmB (mR I)))) ∧ (mR I' = mR I)) := sorry
theorem ct_M_mayVote_8be76 {I : fH} {x1 : Int} (h0 : fB bsJ I) (ha1 : (0 ≤ x1 ∧ x1 ≤ 23)) (hp0 : sI I 741) (hp1 : okL (mLw 741 I)) (hp2 : okE 741 I) : fC ρ base n F xTc vwCl xTys D dA la gJ (fbz bsJ znJ (fKc wz_5ef89) I) xm_428 [.inr (.inr (some 740)), .inl x1] I (fun I' r => ∃ z, r = some (.inl z) ∧ (0 ≤ z ∧ z ≤ 1) ∧ ((z = 1 ∧ alw (mLw 741 I) 4 (sHr (mR I)) (nmO (mR I) x1 0)) ∨ (z = 0 ∧ ¬ alw (mLw 741 I) 4 (sHr (mR I)) (nmO (mR I) x1 0))) ∧ (mR I' = mR I)) := sorry
set_option maxRecDepth 8000 in
theorem ct_M_may_cbf6c {I : fH} {x1 : Int} {x2 : Int} {x3 : Int} (h0 : fB bsJ I) (ha1 : ((-2147483648) ≤ x1 ∧ x1 ≤ 2147483647)) (ha2 : ((-2147483648) ≤ x2 ∧ x2 ≤ 2147483647)) (ha3 : ((-2147483648) ≤ x3 ∧ x3 ≤ 2147483647)) (hp0 : sI I 741) (hp1 : okL (mLw 741 I)) (hp2 : okE 741 I) : fC ρ base n F xTc vwCl xTys D dA la gJ (fbz bsJ znJ (fKc wz_5ef89) I) xm_430 [.inr (.inr (some 740)), .inl x1, .inl x2, .inl x3] I (fun _ r => ∃ z, r = some (.inl z) ∧ ((0 ≤ z ∧ z ≤ 1) ∨ z = (-1000000001)) ∧ (z = oMay (mR I) (mLw 741 I) x1 x2 x3)) := by
  have hW : fzs wz_5ef89 (fKc wz_5ef89) := fKc_ok _
  refine f_meth (rb := rbJ) (J := []) 1 400 xG xin_430 x6_430 okJ (fB_self h0) ?_ ?_
  · exact fun q h => absurd h List.not_mem_nil
  · have hB0 := fB_self (zn := znJ) (K := fKc wz_5ef89) h0
    have w906 : I 741 6 = gt (mR I) 6 := (show I 741 6 = gt (mR I) 6 from (mR_ld (I := I) (k := 6) (by decide +kernel)).symm)
    have w908 : I 741 8 = gt (mR I) 8 := (show I 741 8 = gt (mR I) 8 from (mR_ld (I := I) (k := 8) (by decide +kernel)).symm)
    refine And.intro (by first | exact fi_ ha2.1 ha2.2 rfl | omega) ?_
    refine Exists.intro xm_238 (And.intro mi_238 (And.intro ⟨rfl, rfl, rfl, rfl⟩ (And.intro True.intro ?_)))
    refine fcallp hB0 (ct_M_isIn_27230 (fBz h0 hB0) (by first | exact ⟨ha2.1, ha2.2⟩ | omega) (by first | exact ⟨by decide, by decide⟩ | omega) (by first | exact ⟨by decide, by decide⟩ | omega)) ?_
    rintro _ ⟨z1, rfl, hz1⟩
    refine And.intro (by omega) (And.intro ?_ ?_)
    · intro c2
      replace hz1 := wj_ hz1 c2
      refine And.intro (True.intro) ?_
      exact ⟨_, rfl, by omega, (ma_x (Or.inl (by omega)) rfl)⟩
    · intro c3
      replace hz1 := wi_ hz1 c3
      refine And.intro (And.intro (by first | exact fi_ (Int.le_trans (Int.le_refl _) hz1.1) (Int.le_trans hz1.2 (Int.le_refl _)) rfl | omega) (by first | exact ⟨by decide, by decide⟩ | omega)) (And.intro ?_ ?_)
      · intro c4
        refine And.intro (by first | exact fi_ (Int.le_trans (Int.le_refl _) c4) (Int.le_trans hz1.2 (Int.le_refl _)) rfl | omega) (And.intro ?_ ?_)
        · intro c5
          refine And.intro (by first | exact fi_ (Int.le_trans (Int.le_refl _) c4) (Int.le_trans hz1.2 (Int.le_refl _)) rfl | omega) (And.intro ?_ ?_)
          · intro c6
            refine And.intro (And.intro (by first | exact fi_ (Int.le_trans (Int.le_refl _) c4) (Int.le_trans hz1.2 (Int.le_refl _)) rfl | omega) (by first | exact ⟨by decide, by decide⟩ | omega)) (And.intro ?_ ?_)
            · intro c7
              refine Exists.intro xm_309 (And.intro mi_309 (And.intro ⟨rfl, rfl, rfl, rfl⟩ (And.intro rfl ?_)))
              refine fcall _ h0 (fzs_sub (by decide +kernel) hW) hB0 (ct_M_mayBirth_669a5 (fBz h0 hB0) (sI_keep hp0 h0 hB0 (by decide +kernel)) hp1 hp2) ?_
              rintro IhB9 _ hB9 fhB9 ⟨z8, rfl, hz8, g0z8, g1z8⟩
              refine And.intro (by omega) (And.intro ?_ ?_)
              · intro c10
                try replace hz8 := wj_ hz8.2 c10
                refine And.intro (True.intro) ?_
                exact ⟨_, rfl, by omega, (by first | exact ma_2 (by omega) ((show _ = z8 by omega).trans (yn_ci g0z8)) | (exfalso; omega))⟩
              · intro c11
                try replace hz8 := And.intro (wk_ hz8.1 c11) (wi_ hz8.2 c11)
                refine And.intro (True.intro) ?_
                exact ⟨_, rfl, by omega, (by first | exact ma_2 (by omega) ((show _ = z8 by omega).trans (yn_ci g0z8)) | (exfalso; omega))⟩
            · intro c12
              refine Exists.intro xm_428 (And.intro mi_428 (And.intro ⟨rfl, rfl, rfl, rfl⟩ (And.intro rfl ?_)))
              refine fcall _ h0 (fzs_sub (by decide +kernel) hW) hB0 (ct_M_mayVote_8be76 (fBz h0 hB0) (by omega) (sI_keep hp0 h0 hB0 (by decide +kernel)) hp1 hp2) ?_
              rintro IhB14 _ hB14 fhB14 ⟨z13, rfl, hz13, g0z13, g1z13⟩
              refine And.intro (by omega) (And.intro ?_ ?_)
              · intro c15
                try replace hz13 := wj_ hz13.2 c15
                refine And.intro (True.intro) ?_
                exact ⟨_, rfl, by omega, (by exfalso; omega)⟩
              · intro c16
                try replace hz13 := And.intro (wk_ hz13.1 c16) (wi_ hz13.2 c16)
                refine And.intro (True.intro) ?_
                exact ⟨_, rfl, by omega, (by exfalso; omega)⟩
          · intro c17
            refine Exists.intro xm_253 (And.intro mi_253 (And.intro ⟨rfl, rfl, rfl, rfl⟩ (And.intro rfl ?_)))
            refine fcall _ h0 (fzs_sub (by decide +kernel) hW) hB0 (ct_M_mayOpen_42d58 (fBz h0 hB0) (by omega) (by omega) (sI_keep hp0 h0 hB0 (by decide +kernel)) hp1 hp2) ?_
            rintro IhB19 _ hB19 fhB19 ⟨z18, rfl, hz18, g0z18, g1z18⟩
            refine And.intro (by omega) (And.intro ?_ ?_)
            · intro c20
              try replace hz18 := wj_ hz18.2 c20
              refine And.intro (True.intro) ?_
              exact ⟨_, rfl, by omega, (by exfalso; omega)⟩
            · intro c21
              try replace hz18 := And.intro (wk_ hz18.1 c21) (wi_ hz18.2 c21)
              refine And.intro (True.intro) ?_
              exact ⟨_, rfl, by omega, (by exfalso; omega)⟩
        · intro c22
          refine Exists.intro xm_251 (And.intro mi_251 (And.intro ⟨rfl, rfl, rfl, rfl⟩ (And.intro rfl ?_)))
          refine fcallp hB0 (ct_M_isLock_5e2b8 (fBz h0 hB0) (by first | exact ⟨ha3.1, ha3.2⟩ | omega)) ?_
          rintro _ ⟨z23, rfl, hz23⟩
          refine And.intro (by omega) (And.intro ?_ ?_)
          · intro c24
            try replace hz23 := And.intro (wk_ hz23.1 c24) (wi_ hz23.2 c24)
            refine And.intro (by first | exact fi_ (Int.le_trans (Int.le_refl _) c4) (Int.le_trans (Int.le_of_eq c22) (Int.le_refl _)) rfl | omega) (And.intro ?_ ?_)
            · intro c25
              refine And.intro (And.intro (by first | exact fi_ (Int.le_trans (Int.le_refl _) c4) (Int.le_trans (Int.le_of_eq c22) (Int.le_refl _)) rfl | omega) (by first | exact ⟨by decide, by decide⟩ | omega)) (And.intro ?_ ?_)
              · intro c26
                refine Exists.intro xm_309 (And.intro mi_309 (And.intro ⟨rfl, rfl, rfl, rfl⟩ (And.intro rfl ?_)))
                refine fcall _ h0 (fzs_sub (by decide +kernel) hW) hB0 (ct_M_mayBirth_669a5 (fBz h0 hB0) (sI_keep hp0 h0 hB0 (by decide +kernel)) hp1 hp2) ?_
                rintro IhB28 _ hB28 fhB28 ⟨z27, rfl, hz27, g0z27, g1z27⟩
                refine And.intro (by omega) (And.intro ?_ ?_)
                · intro c29
                  try replace hz27 := wj_ hz27.2 c29
                  refine And.intro (True.intro) ?_
                  exact ⟨_, rfl, by omega, (by first | exact ma_2 (by omega) ((show _ = z27 by omega).trans (yn_ci g0z27)) | (exfalso; omega))⟩
                · intro c30
                  try replace hz27 := And.intro (wk_ hz27.1 c30) (wi_ hz27.2 c30)
                  refine And.intro (True.intro) ?_
                  exact ⟨_, rfl, by omega, (by first | exact ma_2 (by omega) ((show _ = z27 by omega).trans (yn_ci g0z27)) | (exfalso; omega))⟩
              · intro c31
                refine Exists.intro xm_428 (And.intro mi_428 (And.intro ⟨rfl, rfl, rfl, rfl⟩ (And.intro rfl ?_)))
                refine fcall _ h0 (fzs_sub (by decide +kernel) hW) hB0 (ct_M_mayVote_8be76 (fBz h0 hB0) (by omega) (sI_keep hp0 h0 hB0 (by decide +kernel)) hp1 hp2) ?_
                rintro IhB33 _ hB33 fhB33 ⟨z32, rfl, hz32, g0z32, g1z32⟩
                refine And.intro (by omega) (And.intro ?_ ?_)
                · intro c34
                  try replace hz32 := wj_ hz32.2 c34
                  refine And.intro (True.intro) ?_
                  exact ⟨_, rfl, by omega, (by exfalso; omega)⟩
                · intro c35
                  try replace hz32 := And.intro (wk_ hz32.1 c35) (wi_ hz32.2 c35)
                  refine And.intro (True.intro) ?_
                  exact ⟨_, rfl, by omega, (by exfalso; omega)⟩
            · intro c36
              refine Exists.intro xm_253 (And.intro mi_253 (And.intro ⟨rfl, rfl, rfl, rfl⟩ (And.intro rfl ?_)))
              refine fcall _ h0 (fzs_sub (by decide +kernel) hW) hB0 (ct_M_mayOpen_42d58 (fBz h0 hB0) (by omega) (by omega) (sI_keep hp0 h0 hB0 (by decide +kernel)) hp1 hp2) ?_
              rintro IhB38 _ hB38 fhB38 ⟨z37, rfl, hz37, g0z37, g1z37⟩
              refine And.intro (by omega) (And.intro ?_ ?_)
              · intro c39
                try replace hz37 := wj_ hz37.2 c39
                refine And.intro (True.intro) ?_
                exact ⟨_, rfl, by omega, (by exfalso; omega)⟩
              · intro c40
                try replace hz37 := And.intro (wk_ hz37.1 c40) (wi_ hz37.2 c40)
                refine And.intro (True.intro) ?_
                exact ⟨_, rfl, by omega, (by exfalso; omega)⟩
          · intro c41
            try replace hz23 := wj_ hz23.2 c41
            refine And.intro (True.intro) ?_
            exact ⟨_, rfl, by omega, (by exfalso; omega)⟩
      · intro c42
        refine Exists.intro xm_252 (And.intro mi_252 (And.intro ⟨rfl, rfl, rfl, rfl⟩ (And.intro rfl ?_)))
        refine fcallp hB0 (ct_M_isPerson_4d30c (fBz h0 hB0) (by first | exact ⟨ha1.1, ha1.2⟩ | omega)) ?_
        rintro _ ⟨z43, rfl, hz43⟩
        refine And.intro (by omega) (And.intro ?_ ?_)
        · intro c44
          try replace hz43 := wj_ hz43.2 c44
          refine And.intro (True.intro) ?_
          exact ⟨_, rfl, by omega, (ma_x (Or.inr (Or.inl ⟨by omega, by omega⟩)) rfl)⟩
        · intro c45
          try replace hz43 := And.intro (wk_ hz43.1 c45) (wi_ hz43.2 c45)
          refine Exists.intro xm_248 (And.intro mi_248 (And.intro ⟨rfl, rfl, rfl, rfl⟩ (And.intro rfl ?_)))
          refine fcallp hB0 (ct_M_isDead_21e1a (fBz h0 hB0) (by omega)) ?_
          rintro _ ⟨z46, rfl, hz46, g0z46⟩
          refine And.intro (by omega) (And.intro ?_ ?_)
          · intro c47
            try replace hz46 := And.intro (wk_ hz46.1 c47) (wi_ hz46.2 c47)
            refine And.intro (True.intro) ?_
            exact ⟨_, rfl, by omega, (ma_x (Or.inr (Or.inr (Or.inl ⟨by omega, by omega, (g0z46.elim (fun q => q.2) (fun q => absurd q.1 (by omega)))⟩))) rfl)⟩
          · intro c48
            try replace hz46 := wj_ hz46.2 c48
            refine And.intro (by first | exact fi_ (Int.le_trans (Int.le_refl _) hz1.1) (Int.le_sub_one_of_lt (Int.lt_of_lt_of_le c42 (Int.le_refl _))) rfl | omega) (And.intro ?_ ?_)
            · intro c49
              refine And.intro (by first | exact fi_ (Int.le_trans (Int.le_refl _) hz1.1) (Int.le_sub_one_of_lt (Int.lt_of_lt_of_le c42 (Int.le_refl _))) rfl | omega) (And.intro ?_ ?_)
              · intro c50
                refine And.intro (And.intro (by first | exact fi_ (Int.le_trans (Int.le_refl _) hz1.1) (Int.le_sub_one_of_lt (Int.lt_of_lt_of_le c42 (Int.le_refl _))) rfl | omega) (by first | exact ⟨by decide, by decide⟩ | omega)) (And.intro ?_ ?_)
                · intro c51
                  refine Exists.intro xm_309 (And.intro mi_309 (And.intro ⟨rfl, rfl, rfl, rfl⟩ (And.intro rfl ?_)))
                  refine fcall _ h0 (fzs_sub (by decide +kernel) hW) hB0 (ct_M_mayBirth_669a5 (fBz h0 hB0) (sI_keep hp0 h0 hB0 (by decide +kernel)) hp1 hp2) ?_
                  rintro IhB53 _ hB53 fhB53 ⟨z52, rfl, hz52, g0z52, g1z52⟩
                  refine And.intro (by omega) (And.intro ?_ ?_)
                  · intro c54
                    try replace hz52 := wj_ hz52.2 c54
                    refine And.intro (True.intro) ?_
                    exact ⟨_, rfl, by omega, (by first | exact ma_2 (by omega) ((show _ = z52 by omega).trans (yn_ci g0z52)) | (exfalso; omega))⟩
                  · intro c55
                    try replace hz52 := And.intro (wk_ hz52.1 c55) (wi_ hz52.2 c55)
                    refine And.intro (True.intro) ?_
                    exact ⟨_, rfl, by omega, (by first | exact ma_2 (by omega) ((show _ = z52 by omega).trans (yn_ci g0z52)) | (exfalso; omega))⟩
                · intro c56
                  refine Exists.intro xm_428 (And.intro mi_428 (And.intro ⟨rfl, rfl, rfl, rfl⟩ (And.intro rfl ?_)))
                  refine fcall _ h0 (fzs_sub (by decide +kernel) hW) hB0 (ct_M_mayVote_8be76 (fBz h0 hB0) (by omega) (sI_keep hp0 h0 hB0 (by decide +kernel)) hp1 hp2) ?_
                  rintro IhB58 _ hB58 fhB58 ⟨z57, rfl, hz57, g0z57, g1z57⟩
                  refine And.intro (by omega) (And.intro ?_ ?_)
                  · intro c59
                    try replace hz57 := wj_ hz57.2 c59
                    refine And.intro (True.intro) ?_
                    exact ⟨_, rfl, by omega, (ma_1 (by omega) (by omega) (g0z46.elim (fun q => absurd q.1 (by omega)) (fun q => q.2)) ((show _ = z57 by omega).trans (yn_ci g0z57)))⟩
                  · intro c60
                    try replace hz57 := And.intro (wk_ hz57.1 c60) (wi_ hz57.2 c60)
                    refine And.intro (True.intro) ?_
                    exact ⟨_, rfl, by omega, (ma_1 (by omega) (by omega) (g0z46.elim (fun q => absurd q.1 (by omega)) (fun q => q.2)) ((show _ = z57 by omega).trans (yn_ci g0z57)))⟩
              · intro c61
                refine Exists.intro xm_253 (And.intro mi_253 (And.intro ⟨rfl, rfl, rfl, rfl⟩ (And.intro rfl ?_)))
                refine fcall _ h0 (fzs_sub (by decide +kernel) hW) hB0 (ct_M_mayOpen_42d58 (fBz h0 hB0) (by omega) (by omega) (sI_keep hp0 h0 hB0 (by decide +kernel)) hp1 hp2) ?_
                rintro IhB63 _ hB63 fhB63 ⟨z62, rfl, hz62, g0z62, g1z62⟩
                refine And.intro (by omega) (And.intro ?_ ?_)
                · intro c64
                  try replace hz62 := wj_ hz62.2 c64
                  refine And.intro (True.intro) ?_
                  exact ⟨_, rfl, by omega, (ma_0 (by omega) (by omega) (g0z46.elim (fun q => absurd q.1 (by omega)) (fun q => q.2)) (by omega) ((show _ = z62 by omega).trans (yn_ci g0z62)))⟩
                · intro c65
                  try replace hz62 := And.intro (wk_ hz62.1 c65) (wi_ hz62.2 c65)
                  refine And.intro (True.intro) ?_
                  exact ⟨_, rfl, by omega, (ma_0 (by omega) (by omega) (g0z46.elim (fun q => absurd q.1 (by omega)) (fun q => q.2)) (by omega) ((show _ = z62 by omega).trans (yn_ci g0z62)))⟩
            · intro c66
              refine Exists.intro xm_251 (And.intro mi_251 (And.intro ⟨rfl, rfl, rfl, rfl⟩ (And.intro rfl ?_)))
              refine fcallp hB0 (ct_M_isLock_5e2b8 (fBz h0 hB0) (by first | exact ⟨ha3.1, ha3.2⟩ | omega)) ?_
              rintro _ ⟨z67, rfl, hz67⟩
              refine And.intro (by omega) (And.intro ?_ ?_)
              · intro c68
                try replace hz67 := And.intro (wk_ hz67.1 c68) (wi_ hz67.2 c68)
                refine And.intro (by first | exact fi_ (Int.le_trans (Int.le_refl _) hz1.1) (Int.le_trans (Int.le_of_eq c66) (Int.le_refl _)) rfl | omega) (And.intro ?_ ?_)
                · intro c69
                  refine And.intro (And.intro (by first | exact fi_ (Int.le_trans (Int.le_refl _) hz1.1) (Int.le_trans (Int.le_of_eq c66) (Int.le_refl _)) rfl | omega) (by first | exact ⟨by decide, by decide⟩ | omega)) (And.intro ?_ ?_)
                  · intro c70
                    refine Exists.intro xm_309 (And.intro mi_309 (And.intro ⟨rfl, rfl, rfl, rfl⟩ (And.intro rfl ?_)))
                    refine fcall _ h0 (fzs_sub (by decide +kernel) hW) hB0 (ct_M_mayBirth_669a5 (fBz h0 hB0) (sI_keep hp0 h0 hB0 (by decide +kernel)) hp1 hp2) ?_
                    rintro IhB72 _ hB72 fhB72 ⟨z71, rfl, hz71, g0z71, g1z71⟩
                    refine And.intro (by omega) (And.intro ?_ ?_)
                    · intro c73
                      try replace hz71 := wj_ hz71.2 c73
                      refine And.intro (True.intro) ?_
                      exact ⟨_, rfl, by omega, (by first | exact ma_2 (by omega) ((show _ = z71 by omega).trans (yn_ci g0z71)) | (exfalso; omega))⟩
                    · intro c74
                      try replace hz71 := And.intro (wk_ hz71.1 c74) (wi_ hz71.2 c74)
                      refine And.intro (True.intro) ?_
                      exact ⟨_, rfl, by omega, (by first | exact ma_2 (by omega) ((show _ = z71 by omega).trans (yn_ci g0z71)) | (exfalso; omega))⟩
                  · intro c75
                    refine Exists.intro xm_428 (And.intro mi_428 (And.intro ⟨rfl, rfl, rfl, rfl⟩ (And.intro rfl ?_)))
                    refine fcall _ h0 (fzs_sub (by decide +kernel) hW) hB0 (ct_M_mayVote_8be76 (fBz h0 hB0) (by omega) (sI_keep hp0 h0 hB0 (by decide +kernel)) hp1 hp2) ?_
                    rintro IhB77 _ hB77 fhB77 ⟨z76, rfl, hz76, g0z76, g1z76⟩
                    refine And.intro (by omega) (And.intro ?_ ?_)
                    · intro c78
                      try replace hz76 := wj_ hz76.2 c78
                      refine And.intro (True.intro) ?_
                      exact ⟨_, rfl, by omega, (ma_1 (by omega) (by omega) (g0z46.elim (fun q => absurd q.1 (by omega)) (fun q => q.2)) ((show _ = z76 by omega).trans (yn_ci g0z76)))⟩
                    · intro c79
                      try replace hz76 := And.intro (wk_ hz76.1 c79) (wi_ hz76.2 c79)
                      refine And.intro (True.intro) ?_
                      exact ⟨_, rfl, by omega, (ma_1 (by omega) (by omega) (g0z46.elim (fun q => absurd q.1 (by omega)) (fun q => q.2)) ((show _ = z76 by omega).trans (yn_ci g0z76)))⟩
                · intro c80
                  refine Exists.intro xm_253 (And.intro mi_253 (And.intro ⟨rfl, rfl, rfl, rfl⟩ (And.intro rfl ?_)))
                  refine fcall _ h0 (fzs_sub (by decide +kernel) hW) hB0 (ct_M_mayOpen_42d58 (fBz h0 hB0) (by omega) (by omega) (sI_keep hp0 h0 hB0 (by decide +kernel)) hp1 hp2) ?_
                  rintro IhB82 _ hB82 fhB82 ⟨z81, rfl, hz81, g0z81, g1z81⟩
                  refine And.intro (by omega) (And.intro ?_ ?_)
                  · intro c83
                    try replace hz81 := wj_ hz81.2 c83
                    refine And.intro (True.intro) ?_
                    exact ⟨_, rfl, by omega, (ma_0 (by omega) (by omega) (g0z46.elim (fun q => absurd q.1 (by omega)) (fun q => q.2)) (by omega) ((show _ = z81 by omega).trans (yn_ci g0z81)))⟩
                  · intro c84
                    try replace hz81 := And.intro (wk_ hz81.1 c84) (wi_ hz81.2 c84)
                    refine And.intro (True.intro) ?_
                    exact ⟨_, rfl, by omega, (ma_0 (by omega) (by omega) (g0z46.elim (fun q => absurd q.1 (by omega)) (fun q => q.2)) (by omega) ((show _ = z81 by omega).trans (yn_ci g0z81)))⟩
              · intro c85
                try replace hz67 := wj_ hz67.2 c85
                refine And.intro (True.intro) ?_
                exact ⟨_, rfl, by omega, (ma_x (Or.inr (Or.inr (Or.inr ⟨by omega, by omega, fun _ => (g0z46.elim (fun q => absurd q.1 (by omega)) (fun q => q.2))⟩))) rfl)⟩
set_option maxRecDepth 8000 in
theorem ct_X_why_3ef58 {I : fH} {x1 : Int} (h0 : fB bsJ I) (ha1 : ((-2147483648) ≤ x1 ∧ x1 ≤ 2147483647)) (hp0 : okL (cLw 0 I)) : fC ρ base n F xTc vwCl xTys D dA la gJ (fbz bsJ znJ (fKc []) I) xm_144 [.inr (.inr (some 0)), .inl x1] I (fun _ r => ∃ z, r = some (.inl z) ∧ ((0 ≤ z ∧ z ≤ 11) ∨ z = (-1000000005) ∨ z = (-1000000001)) ∧ (z = oWhy (cLw 0 I) (sHr (cR 0 I)) x1)) := by
  have hW : fzs [] (fKc []) := fKc_ok _
  refine f_meth (rb := rbJ) (J := []) 1 400 xG xin_144 x6_144 okJ (fB_self h0) ?_ ?_
  · exact fun q h => absurd h List.not_mem_nil
  · have hB0 := fB_self (zn := znJ) (K := fKc []) h0
    refine Exists.intro xm_13 (And.intro mi_13 (And.intro ⟨rfl, rfl, rfl, rfl⟩ (And.intro True.intro ?_)))
    refine fcallp hB0 (ct_X_within_c27b1 (fBz h0 hB0) (by first | exact ⟨ha1.1, ha1.2⟩ | omega) (by first | exact ⟨by decide, by decide⟩ | omega) (by first | exact ⟨by decide, by decide⟩ | omega)) ?_
    rintro _ ⟨z1, rfl, hz1⟩
    refine And.intro (by omega) (And.intro ?_ ?_)
    · intro c2
      replace hz1 := wj_ hz1 c2
      refine And.intro (True.intro) ?_
      exact ⟨_, rfl, by omega, (if_n (by omega) rfl)⟩
    · intro c3
      replace hz1 := wi_ hz1 c3
      refine And.intro ⟨rfl, by decide, by decide⟩ ?_
      refine And.intro ⟨rfl, by decide, by decide⟩ ?_
      refine Exists.intro xm_32 (And.intro mi_32 (And.intro ⟨rfl, rfl, rfl, rfl⟩ (And.intro rfl ?_)))
      refine fcallp hB0 (ct_City_hour_b7a7b (fBz h0 hB0)) ?_
      rintro _ ⟨z4, rfl, hz4, g0z4⟩
      refine Exists.intro xm_34 (And.intro mi_34 (And.intro ⟨rfl, rfl, rfl, rfl⟩ (And.intro rfl ?_)))
      refine fcallp hB0 (ct_Charter_counting_8f92c (fBz h0 hB0) (by first | exact ⟨Int.le_trans (by decide) (Int.le_trans (Int.le_refl _) hz1.1), Int.le_trans (Int.le_trans hz1.2 (Int.le_refl _)) (by decide)⟩ | omega) (by first | exact ⟨hz4.1, hz4.2⟩ | omega) hp0) ?_
      rintro _ ⟨z5, rfl, hz5, g0z5⟩
      refine And.intro (True.intro) ?_
      exact ⟨_, rfl, by omega, (if_y (by omega) (why_c g0z5 g0z4))⟩
set_option maxRecDepth 8000 in
theorem ct_M_why_c5dd8 {I : fH} {x1 : Int} (h0 : fB bsJ I) (ha1 : ((-2147483648) ≤ x1 ∧ x1 ≤ 2147483647)) : fC ρ base n F xTc vwCl xTys D dA la gJ (fbz bsJ znJ (fKc []) I) xm_431 [.inr (.inr (some 740)), .inl x1] I (fun _ r => ∃ z, r = some (.inl z) ∧ ((0 ≤ z ∧ z ≤ 2147483647) ∨ z = (-1000000005) ∨ z = (-1000000001)) ∧ (z = oWhy (mLw 741 I) (sHr (mR I)) x1)) := by
  have hW : fzs [] (fKc []) := fKc_ok _
  refine f_meth (rb := rbJ) (J := []) 1 400 xG xin_431 x6_431 okJ (fB_self h0) ?_ ?_
  · exact fun q h => absurd h List.not_mem_nil
  · have hB0 := fB_self (zn := znJ) (K := fKc []) h0
    refine And.intro (by first | exact fi_ ha1.1 ha1.2 rfl | omega) ?_
    refine Exists.intro xm_238 (And.intro mi_238 (And.intro ⟨rfl, rfl, rfl, rfl⟩ (And.intro True.intro ?_)))
    refine fcallp hB0 (ct_M_isIn_27230 (fBz h0 hB0) (by first | exact ⟨ha1.1, ha1.2⟩ | omega) (by first | exact ⟨by decide, by decide⟩ | omega) (by first | exact ⟨by decide, by decide⟩ | omega)) ?_
    rintro _ ⟨z1, rfl, hz1⟩
    refine And.intro (by omega) (And.intro ?_ ?_)
    · intro c2
      replace hz1 := wj_ hz1 c2
      refine And.intro (True.intro) ?_
      exact ⟨_, rfl, by omega, (if_n (by omega) rfl)⟩
    · intro c3
      replace hz1 := wi_ hz1 c3
      refine Exists.intro xm_254 (And.intro mi_254 (And.intro ⟨rfl, rfl, rfl, rfl⟩ (And.intro rfl ?_)))
      refine fcallp hB0 (ct_M_counts_1278f (fBz h0 hB0) (by first | exact ⟨Int.le_trans (by decide) (Int.le_trans (Int.le_refl _) hz1.1), Int.le_trans (Int.le_trans hz1.2 (Int.le_refl _)) (by decide)⟩ | omega)) ?_
      rintro _ ⟨z4, rfl, hz4, g0z4⟩
      refine Exists.intro xm_269 (And.intro mi_269 (And.intro ⟨rfl, rfl, rfl, rfl⟩ (And.intro True.intro ?_)))
      refine fcallp hB0 (ct_M_orNone_a2a87 (fBz h0 hB0) (by first | exact ⟨Int.le_trans (by decide) hz4.1.1, Int.le_trans hz4.1.2 (by decide)⟩ | omega)) ?_
      rintro _ ⟨z5, rfl, hz5, g0z5⟩
      refine And.intro (True.intro) ?_
      exact ⟨_, rfl, by omega, (if_y (by omega) (g0z5.trans (congrArg orN g0z4)))⟩
set_option maxRecDepth 8000 in
theorem ct_Charter_partOf_b35bf {I : fH} {x2 : Int} (h0 : fB bsJ I) (ha2 : (0 ≤ x2 ∧ x2 ≤ 23)) (hp0 : okL (cLw 0 I)) : fC ρ base n F xTc vwCl xTys D dA la gJ (fbz bsJ znJ (fKc wz_7d09b) I) xm_147 [.inr (.inr (some 187)), .inr (.inr (some 1)), .inl x2] I (fun I' r => ∃ z, r = some (.inl z) ∧ (0 ≤ z ∧ z ≤ 9999) ∧ (z = sPz (cR 0 I) (cLw 0 I) x2.toNat) ∧ (cR 0 I' = cR 0 I)) := by
  have hW : fzs wz_7d09b (fKc wz_7d09b) := fKc_ok _
  refine f_meth (rb := rbJ) (J := []) 1 400 xG xin_147 x6_147 okJ (fB_self h0) ?_ ?_
  · exact fun q h => absurd h List.not_mem_nil
  · have hB0 := fB_self (zn := znJ) (K := fKc wz_7d09b) h0
    refine And.intro ⟨rfl, by decide, by decide⟩ ?_
    refine Exists.intro xm_21 (And.intro mi_21 (And.intro ⟨rfl, rfl, rfl, rfl⟩ (And.intro rfl ?_)))
    refine fcallp hB0 (ct_People_isDead_edb17 (fBz h0 hB0) (by first | exact ⟨ha2.1, ha2.2⟩ | omega)) ?_
    rintro _ ⟨z1, rfl, hz1, g0z1⟩
    refine And.intro (by omega) (And.intro ?_ ?_)
    · intro c2
      try replace hz1 := wj_ hz1.2 c2
      refine Exists.intro xm_32 (And.intro mi_32 (And.intro ⟨rfl, rfl, rfl, rfl⟩ (And.intro rfl ?_)))
      refine fcallp hB0 (ct_City_hour_b7a7b (fBz h0 hB0)) ?_
      rintro _ ⟨z3, rfl, hz3, g0z3⟩
      refine Exists.intro xm_34 (And.intro mi_34 (And.intro ⟨rfl, rfl, rfl, rfl⟩ (And.intro rfl ?_)))
      refine fcallp hB0 (ct_Charter_counting_8f92c (fBz h0 hB0) (by first | exact ⟨by decide, by decide⟩ | omega) (by first | exact ⟨hz3.1, hz3.2⟩ | omega) hp0) ?_
      rintro _ ⟨z4, rfl, hz4, g0z4⟩
      refine And.intro (by omega) (And.intro ?_ ?_)
      · intro c5
        refine Exists.intro xm_29 (And.intro mi_29 (And.intro ⟨rfl, rfl, rfl, rfl⟩ (And.intro rfl ?_)))
        refine fcall _ h0 (fzs_sub (by decide +kernel) hW) hB0 (ct_Charter_putOne_99949 (fBz h0 hB0) (by first | exact ⟨ha2.1, ha2.2⟩ | omega)) ?_
        rintro IhB7 _ hB7 fhB7 ⟨rfl, hz6, g0z6, g1z6⟩
        have eL : cLw 0 IhB7 = cLw 0 I := (cLw_fr lZ0_ok (fFr_of hB7) (by decide +kernel))
        refine Exists.intro xm_36 (And.intro mi_36 (And.intro ⟨rfl, rfl, rfl, rfl⟩ (And.intro rfl ?_)))
        refine fcall _ h0 (fzs_sub (by decide +kernel) hW) hB7 (ct_Charter_worth_04d20 (fBz h0 hB7) (by omega) (by rw [eL]; exact hp0) (by rw [eL]; exact (cnZ_1 g0z4 (by omega)).1.2)) ?_
        rintro IhB9 _ hB9 fhB9 ⟨z8, rfl, hz8, g0z8⟩
        have r43 := cR_fr (d := 0) cZ0_ok fhB9 (by decide +kernel)
        refine And.intro (And.intro (by first | exact ⟨by decide, by decide⟩ | omega) (And.intro (by first | exact fi_ hz8.1 hz8.2 rfl | omega) rfl)) ?_
        intro z10 hz10
        refine And.intro (And.intro (by first | exact ⟨by decide, by decide⟩ | omega) (And.intro (by omega) rfl)) ?_
        intro z11 hz11
        refine And.intro (True.intro) ?_
        exact ⟨_, rfl, by omega, (pt_w (w := x2) (by omega) (g0z1.elim (fun q => absurd q.1 (by omega)) (fun q => q.2)) ((cnZ_1 g0z4 (by omega)).2.trans (congrArg (cnT (cLw 0 I) 0) g0z3)) (by omega) eL hp0 g0z8 (nmO_4 g0z6 (Or.inr rfl)) (by unfold clp; (repeat' split) <;> omega)), (cR_fr (d := 0) cZ0_ok (fFr_of hB9) (by decide +kernel))⟩
      · intro c12
        refine And.intro (True.intro) ?_
        exact ⟨_, rfl, (by first | exact ⟨by decide, by decide⟩ | omega), (pt_1 (c := -1) (w := x2) (by omega) (g0z1.elim (fun q => absurd q.1 (by omega)) (fun q => q.2)) ((cnZ_0 g0z4 (by omega)).symm.trans (congrArg (cnT (cLw 0 I) 0) g0z3)) (by omega) rfl), (cR_fr (d := 0) cZ0_ok (fFr_of hB0) (by decide +kernel))⟩
    · intro c13
      try replace hz1 := And.intro (wk_ hz1.1 c13) (wi_ hz1.2 c13)
      refine And.intro (True.intro) ?_
      exact ⟨_, rfl, (by first | exact ⟨by decide, by decide⟩ | omega), (pt_d (w := x2) (by omega) (g0z1.elim (fun q => q.2) (fun q => absurd q.1 (by omega))) rfl), (cR_fr (d := 0) cZ0_ok (fFr_of hB0) (by decide +kernel))⟩
abbrev jc_Charter_shareOf_a5f6d_6 (x2 : Int) (x3 : Int) (I0 : fH) : Nat → fL → List fV → fH → Prop := fun m lv st I => ∃ (y2 : Int) (y3 : Int) (y4 : Int) (y6 : Int), lv = [(0, .inr (.inr (some 187))), (1, .inr (.inr (some 1))), (2, .inl y2), (3, .inl y3), (4, .inr (.inl y4)), (6, .inl y6)] ∧ st = [] ∧ (((0 ≤ y2 ∧ y2 ≤ 23) ∧ (0 ≤ y3 ∧ y3 ≤ 999999) ∧ (0 ≤ y4 ∧ y4 ≤ 239976) ∧ (0 ≤ y6 ∧ y6 ≤ 24) ∧ (y4 ≤ 9999 * y6) ∧ (y6 ≤ I0 177 4) ∧ (y2 = x2) ∧ (y3 = x3) ∧ (y4 ≤ 9999 * y6) ∧ (0 ≤ y4)) ∧ (y4 = sm (sPz (cR 0 I0) (cLw 0 I0)) y6.toNat) ∧ (∀ i : Nat, (i : Int) < y6 → I 209 i = (sPz (cR 0 I0) (cLw 0 I0)) i)) ∧ m = (26 + 1 * (24 - y6) : Int).toNat
abbrev jc_Charter_shareOf_a5f6d_70 (x2 : Int) (x3 : Int) (I0 : fH) : Nat → fL → List fV → fH → Prop := fun m lv st I => ∃ (y2 : Int) (y3 : Int) (y4 : Int) (y6 : Int) (y8 : Int) (y9 : Int), lv = [(0, .inr (.inr (some 187))), (1, .inr (.inr (some 1))), (2, .inl y2), (3, .inl y3), (4, .inr (.inl y4)), (6, .inr (.inl y6)), (8, .inl y8), (9, .inl y9)] ∧ st = [] ∧ (((0 ≤ y2 ∧ y2 ≤ 23) ∧ (0 ≤ y3 ∧ y3 ≤ 999999) ∧ (1 ≤ y4 ∧ y4 ≤ 239976) ∧ ((-23999976) ≤ y6 ∧ y6 ≤ 999999) ∧ (0 ≤ y8 ∧ y8 ≤ 24) ∧ (0 ≤ y9 ∧ y9 ≤ 24) ∧ (y9 ≤ I0 177 4) ∧ (y2 = x2) ∧ (y3 = x3) ∧ (y6 ≤ x3) ∧ (x3 - 999999 * y9 ≤ y6) ∧ (y8 ≤ y9) ∧ (0 ≤ y8)) ∧ (y4 = sm (sPz (cR 0 I0) (cLw 0 I0)) (gt (cR 0 I0) 8).toNat) ∧ (∀ i : Nat, (i : Int) < gt (cR 0 I0) 8 → I 209 i = (sPz (cR 0 I0) (cLw 0 I0)) i) ∧ (y6 = x3 - sm (qS x3 y4 (sPz (cR 0 I0) (cLw 0 I0))) y9.toNat) ∧ (y8 = sm (ahS x2 (sPz (cR 0 I0) (cLw 0 I0))) y9.toNat)) ∧ m = (1 + 1 * (24 - y9) : Int).toNat
set_option maxRecDepth 8000 in
theorem ct_Charter_shareOf_a5f6d {I : fH} {x2 : Int} {x3 : Int} (h0 : fB bsJ I) (ha2 : (0 ≤ x2 ∧ x2 ≤ 23)) (ha3 : (0 ≤ x3 ∧ x3 ≤ 999999)) (hp0 : okL (cLw 0 I)) (hp1 : x2 < gt (cR 0 I) 8) : fC ρ base n F xTc vwCl xTys D dA la gJ (fbz bsJ znJ (fKc wz_8a11b) I) xm_146 [.inr (.inr (some 187)), .inr (.inr (some 1)), .inl x2, .inl x3] I (fun I' r => ∃ z, r = some (.inl z) ∧ (0 ≤ z ∧ z ≤ 1000000) ∧ (z = sSh (sPz (cR 0 I) (cLw 0 I)) (gt (cR 0 I) 8).toNat x2 x3) ∧ (cR 0 I' = cR 0 I)) := by
  have hW : fzs wz_8a11b (fKc wz_8a11b) := fKc_ok _
  refine f_meth (rb := rbJ) (J := [(6, (jc_Charter_shareOf_a5f6d_6 x2 x3 I)), (70, (jc_Charter_shareOf_a5f6d_70 x2 x3 I))]) 51 400 xG xin_146 x6_146 okJ (fB_self h0) ?_ ?_
  · refine List.forall_mem_cons.mpr ⟨?_, List.forall_mem_cons.mpr ⟨?_, fun q h => absurd h List.not_mem_nil⟩⟩
    · rintro m _ _ I1 hB1 ⟨y2, y3, y4, y6, rfl, rfl, ⟨hb, hx0, hx1⟩, hm⟩
      have k1 := fBz_eq hB1 (a := 177) (j := 4) (by decide +kernel)
      have b2 := fBd fb_177_4 (fBz h0 hB1)
      have eR : cR 0 I1 = cR 0 I := cR_fr (d := 0) cZ0_ok (fFr_of hB1) (by decide +kernel)
      skip
      have eL : cLw 0 I1 = cLw 0 I := (cLw_fr lZ0_ok (fFr_of hB1) (by decide +kernel))
      have w8 := (cL_f (d := 0) (a := 177) (j := 4) (r := 8) (p := 8) (I := I) (z := I 177 4) (by decide +kernel) (by decide) rfl rfl)
      refine And.intro ⟨rfl, by decide, by decide⟩ ?_
      refine And.intro ⟨rfl, by decide, by decide⟩ (fgetf fb_177_4 h0 hB1 ?_)
      intro z3 lz3 uz3 qz3
      have v12 := cL_f (d := 0) (a := 177) (j := 4) (r := 8) (p := 8) (by decide +kernel) (by decide) qz3 rfl
      rw [eR] at v12
      refine And.intro (And.intro (by first | exact fi_ hb.2.2.2.1.1 hb.2.2.2.1.2 rfl | omega) (by first | exact fi_ lz3 uz3 rfl | omega)) (And.intro ?_ ?_)
      · intro c4
        refine And.intro (And.intro (by first | exact fl_ hb.2.2.1.1 hb.2.2.1.2 rfl | omega) (by first | exact ⟨by decide, by decide⟩ | omega)) ?_
        intro z5 hz5
        refine And.intro (by omega) (And.intro ?_ ?_)
        · intro c6
          refine And.intro (by first | exact fi_ hb.2.1.1 hb.2.1.2 rfl | omega) ?_
          exact fcutJ (I := I1) (j := (jc_Charter_shareOf_a5f6d_70 x2 x3 I)) (lv' := [(0, .inr (.inr (some 187))), (1, .inr (.inr (some 1))), (2, .inl _), (3, .inl _), (4, .inr (.inl _)), (6, .inr (.inl _)), (8, .inl _), (9, .inl _)]) (And.intro rfl (And.intro rfl (And.intro rfl (And.intro rfl (And.intro rfl (And.intro rfl (And.intro rfl (And.intro rfl True.intro)))))))) ⟨_, _, _, _, _, _, rfl, rfl, ⟨by omega, (sm_fin hx0 (by omega)), (fun i l => hx1 i (by omega)), (show y3 = x3 - sm _ 0 from (by show y3 = x3 - 0; omega)), rfl⟩, rfl⟩ (by omega)
        · intro c7
          refine And.intro (True.intro) ?_
          exact ⟨_, rfl, (by first | exact ⟨by decide, by decide⟩ | omega), (sh_0 (sm_fin hx0 (by omega)) (by omega) rfl), (cR_fr (d := 0) cZ0_ok (fFr_of hB1) (by decide +kernel))⟩
      · intro c8
        refine And.intro ⟨rfl, by decide, by decide⟩ ?_
        refine Exists.intro xm_147 (And.intro mi_147 (And.intro ⟨rfl, rfl, rfl, rfl⟩ (And.intro rfl ?_)))
        refine fcall _ h0 (fzs_sub (by decide +kernel) hW) hB1 (ct_Charter_partOf_b35bf (fBz h0 hB1) (by first | exact ⟨hb.2.2.2.1.1, Int.le_trans (Int.le_sub_one_of_lt (Int.lt_of_lt_of_le c8 uz3)) (by decide)⟩ | omega) (by rw [eL]; exact hp0)) ?_
        rintro IhB10 _ hB10 fhB10 ⟨z9, rfl, hz9, g0z9, g1z9⟩
        have t11 := fhB10 177 4 (by decide +kernel)
        have k12 := fBz_eq hB10 (a := 177) (j := 4) (by decide +kernel)
        rw [eL, eR] at g0z9
        refine fstore1 rS_209_209_0_23_1_0 (fzs_sub (by decide +kernel) hW) ⟨by decide, by decide⟩ (by first | exact ⟨hb.2.2.2.1.1, Int.le_trans (Int.le_sub_one_of_lt (Int.lt_of_lt_of_le c8 uz3)) (by decide)⟩ | omega) (by first | exact ⟨Int.le_trans (by decide) hz9.1, Int.le_trans hz9.2 (by decide)⟩ | omega) ?_
        intro IhB13 ehB13 hB13
        have t14 := fup_self ehB13
        have t15 : IhB13 177 4 = IhB10 177 4 := (congrFun (congrFun ehB13 177) 4).trans (fup_ne (by first | exact Or.inl (by decide) | omega))
        have k16 := fBz_eq hB13 (a := 177) (j := 4) (by decide +kernel)
        have r31 := cR_ot (d := 0) ehB13 (by decide)
        refine And.intro ⟨rfl, by decide, by decide⟩ ?_
        refine fload1 rL_209_209_0_23_1_0 h0 hB13 ⟨by decide, by decide⟩ (by first | exact ⟨hb.2.2.2.1.1, Int.le_trans (Int.le_sub_one_of_lt (Int.lt_of_lt_of_le c8 uz3)) (by decide)⟩ | omega) ?_
        intro z17 lz17 uz17 qz17
        have v40 := fld_at qz17 y6.toNat (by omega)
        rw [fup_at ehB13 y6.toNat (by omega)] at v40
        refine And.intro (by first | exact fi_ lz17 uz17 rfl | omega) ?_
        intro z18 hz18 ez18 bz18
        exact fcutJ (I := IhB13) (j := (jc_Charter_shareOf_a5f6d_6 x2 x3 I)) (lv' := [(0, .inr (.inr (some 187))), (1, .inr (.inr (some 1))), (2, .inl _), (3, .inl _), (4, .inr (.inl _)), (6, .inl _)]) (And.intro rfl (And.intro rfl (And.intro rfl (And.intro rfl (And.intro rfl (And.intro rfl True.intro)))))) ⟨_, _, _, _, rfl, rfl, ⟨by omega, (sm_at (v := z9) hx0 (by omega) (by omega) g0z9 (by omega)), (ar_S (fun i l => (fFr_at fhB10 209 (by decide +kernel) rfl i).trans (hx1 i l)) (pn_st ehB13 rfl) (by omega) (by omega) g0z9)⟩, rfl⟩ (by omega)
    · rintro m _ _ I1 hB1 ⟨y2, y3, y4, y6, y8, y9, rfl, rfl, ⟨hb, hx0, hx1, hx2, hx3⟩, hm⟩
      have k19 := fBz_eq hB1 (a := 177) (j := 4) (by decide +kernel)
      have b20 := fBd fb_177_4 (fBz h0 hB1)
      have eR : cR 0 I1 = cR 0 I := cR_fr (d := 0) cZ0_ok (fFr_of hB1) (by decide +kernel)
      skip
      have w8 := (cL_f (d := 0) (a := 177) (j := 4) (r := 8) (p := 8) (I := I) (z := I 177 4) (by decide +kernel) (by decide) rfl rfl)
      refine And.intro ⟨rfl, by decide, by decide⟩ ?_
      refine And.intro ⟨rfl, by decide, by decide⟩ (fgetf fb_177_4 h0 hB1 ?_)
      intro z21 lz21 uz21 qz21
      have v76 := cL_f (d := 0) (a := 177) (j := 4) (r := 8) (p := 8) (by decide +kernel) (by decide) qz21 rfl
      rw [eR] at v76
      refine And.intro (And.intro (by first | exact fi_ hb.2.2.2.2.2.1.1 hb.2.2.2.2.2.1.2 rfl | omega) (by first | exact fi_ lz21 uz21 rfl | omega)) (And.intro ?_ ?_)
      · intro c22
        refine And.intro (by first | exact fi_ hb.2.1.1 hb.2.1.2 rfl | omega) ?_
        refine And.intro ⟨rfl, by decide, by decide⟩ ?_
        refine fload1 rL_209_209_0_23_1_0 h0 hB1 ⟨by decide, by decide⟩ (by first | exact ⟨hb.1.1, hb.1.2⟩ | omega) ?_
        intro z23 lz23 uz23 qz23
        have p133 := (fld_at qz23 y2.toNat (by omega)).trans (hx1 y2.toNat (by omega))
        have b133 := sPz_b (r := cR 0 I) (L := cLw 0 I) (i := y2.toNat)
        have s133 := (sm_ge (P := (sPz (cR 0 I) (cLw 0 I))) (m := (gt (cR 0 I) 8).toNat) (i := y2.toNat) (fun i => sPz_b.1) (by omega)).1
        refine And.intro (by first | exact fi_ lz23 uz23 rfl | omega) ?_
        intro z24 hz24 ez24 bz24
        have m135 := mul_rng (x := y3) (A := 999999) (by omega) (by omega) (y := z23) (B := 9999) (by omega) (by omega)
        have k135 := bz24 ⟨by omega, by omega⟩
        refine And.intro (And.intro (by omega) (by omega)) ?_
        intro z25 hz25 ez25
        have d138 := xldv_t ⟨by omega, by omega⟩ ⟨by omega, by omega⟩ (by omega) hz25 ez25
        rw [Int.tdiv_eq_ediv_of_nonneg (by omega), k135] at d138
        have q138 := qt_le (n := y3) (p := z23) (a := y4) (by omega) (by omega) (by omega) (by omega)
        intro z26 hz26 ez26 bz26
        clear ez26
        have bz26 := bz26 (by omega)
        refine And.intro ⟨rfl, by decide, by decide⟩ ?_
        refine fload1 rL_209_209_0_23_1_0 h0 hB1 ⟨by decide, by decide⟩ (by first | exact ⟨hb.1.1, hb.1.2⟩ | omega) ?_
        intro z27 lz27 uz27 qz27
        have p147 := (fld_at qz27 y2.toNat (by omega)).trans (hx1 y2.toNat (by omega))
        have e147 : z27 = z23 := p147.trans p133.symm
        refine And.intro (by first | exact fi_ lz27 uz27 rfl | omega) (And.intro ?_ ?_)
        · intro c28
          refine And.intro (True.intro) ?_
          exact ⟨_, rfl, by omega, (sh_of (w := z26) hx0 (by omega) (p133.trans (by rw [show x2 = y2 by omega])) (by rw [show x3 = y3 by omega]; omega) (sm_fin_l hx2 (by omega)) (sm_fin hx3 (by omega)) (by omega)), (cR_fr (d := 0) cZ0_ok (fFr_of hB1) (by decide +kernel))⟩
        · intro c29
          refine And.intro (by first | exact fi_ hb.2.2.2.2.1.1 hb.2.2.2.2.1.2 rfl | omega) ?_
          refine And.intro (And.intro (by first | exact fl_ hb.2.2.2.2.1.1 hb.2.2.2.2.1.2 rfl | omega) (by first | exact fl_ hb.2.2.2.1.1 hb.2.2.2.1.2 rfl | omega)) ?_
          intro z30 hz30
          refine And.intro (by omega) (And.intro ?_ ?_)
          · intro c31
            refine And.intro (True.intro) ?_
            exact ⟨_, rfl, by omega, (sh_of (w := z26) hx0 (by omega) (p133.trans (by rw [show x2 = y2 by omega])) (by rw [show x3 = y3 by omega]; omega) (sm_fin_l hx2 (by omega)) (sm_fin hx3 (by omega)) (by omega)), (cR_fr (d := 0) cZ0_ok (fFr_of hB1) (by decide +kernel))⟩
          · intro c32
            intro z33 hz33 ez33 bz33
            have bz33 := bz33 (by omega)
            refine And.intro (True.intro) ?_
            exact ⟨_, rfl, by omega, (sh_of (w := z26) hx0 (by omega) (p133.trans (by rw [show x2 = y2 by omega])) (by rw [show x3 = y3 by omega]; omega) (sm_fin_l hx2 (by omega)) (sm_fin hx3 (by omega)) (by omega)), (cR_fr (d := 0) cZ0_ok (fFr_of hB1) (by decide +kernel))⟩
      · intro c34
        refine And.intro (by first | exact fi_ hb.2.1.1 hb.2.1.2 rfl | omega) ?_
        refine And.intro ⟨rfl, by decide, by decide⟩ ?_
        refine fload1 rL_209_209_0_23_1_0 h0 hB1 ⟨by decide, by decide⟩ (by first | exact ⟨hb.2.2.2.2.2.1.1, Int.le_trans (Int.le_sub_one_of_lt (Int.lt_of_lt_of_le c34 uz21)) (by decide)⟩ | omega) ?_
        intro z35 lz35 uz35 qz35
        have p92 := (fld_at qz35 y9.toNat (by omega)).trans (hx1 y9.toNat (by omega))
        have b92 := sPz_b (r := cR 0 I) (L := cLw 0 I) (i := y9.toNat)
        have s92 := (sm_ge (P := (sPz (cR 0 I) (cLw 0 I))) (m := (gt (cR 0 I) 8).toNat) (i := y9.toNat) (fun i => sPz_b.1) (by omega)).1
        refine And.intro (by first | exact fi_ lz35 uz35 rfl | omega) ?_
        intro z36 hz36 ez36 bz36
        have m94 := mul_rng (x := y3) (A := 999999) (by omega) (by omega) (y := z35) (B := 9999) (by omega) (by omega)
        have k94 := bz36 ⟨by omega, by omega⟩
        refine And.intro (And.intro (by omega) (by omega)) ?_
        intro z37 hz37 ez37
        have d97 := xldv_t ⟨by omega, by omega⟩ ⟨by omega, by omega⟩ (by omega) hz37 ez37
        rw [Int.tdiv_eq_ediv_of_nonneg (by omega), k94] at d97
        have q97 := qt_le (n := y3) (p := z35) (a := y4) (by omega) (by omega) (by omega) (by omega)
        intro z38 hz38 ez38 bz38
        refine And.intro (And.intro (by first | exact fi_ hb.2.2.2.2.2.1.1 (Int.le_sub_one_of_lt (Int.lt_of_lt_of_le c34 uz21)) rfl | omega) (by first | exact fi_ hb.1.1 hb.1.2 rfl | omega)) (And.intro ?_ ?_)
        · intro c39
          exact fcutJ (I := I1) (j := (jc_Charter_shareOf_a5f6d_70 x2 x3 I)) (lv' := [(0, .inr (.inr (some 187))), (1, .inr (.inr (some 1))), (2, .inl _), (3, .inl _), (4, .inr (.inl _)), (6, .inr (.inl _)), (8, .inl _), (9, .inl _)]) (And.intro rfl (And.intro rfl (And.intro rfl (And.intro rfl (And.intro rfl (And.intro rfl (And.intro rfl (And.intro rfl True.intro)))))))) ⟨_, _, _, _, _, _, rfl, rfl, ⟨by omega, hx0, hx1, (sh_l (q := z37) hx2 (by omega) (by omega) p92 (by rw [show x3 = y3 by omega]; exact d97) (by omega)), (sh_k (x := 0) hx3 (by omega) (by omega) (fun q => absurd q (by omega)) (by omega))⟩, rfl⟩ (by omega)
        · intro c40
          refine And.intro ⟨rfl, by decide, by decide⟩ ?_
          refine fload1 rL_209_209_0_23_1_0 h0 hB1 ⟨by decide, by decide⟩ (by first | exact ⟨hb.2.2.2.2.2.1.1, Int.le_trans (Int.le_sub_one_of_lt (Int.lt_of_lt_of_le c40 hb.1.2)) (by decide)⟩ | omega) ?_
          intro z41 lz41 uz41 qz41
          have p113 := (fld_at qz41 y9.toNat (by omega)).trans (hx1 y9.toNat (by omega))
          refine And.intro (by first | exact fi_ lz41 uz41 rfl | omega) (And.intro ?_ ?_)
          · intro c42
            exact fcutJ (I := I1) (j := (jc_Charter_shareOf_a5f6d_70 x2 x3 I)) (lv' := [(0, .inr (.inr (some 187))), (1, .inr (.inr (some 1))), (2, .inl _), (3, .inl _), (4, .inr (.inl _)), (6, .inr (.inl _)), (8, .inl _), (9, .inl _)]) (And.intro rfl (And.intro rfl (And.intro rfl (And.intro rfl (And.intro rfl (And.intro rfl (And.intro rfl (And.intro rfl True.intro)))))))) ⟨_, _, _, _, _, _, rfl, rfl, ⟨by omega, hx0, hx1, (sh_l (q := z37) hx2 (by omega) (by omega) p92 (by rw [show x3 = y3 by omega]; exact d97) (by omega)), (sh_k hx3 (by omega) (by omega) (fun _ => p113) (by omega))⟩, rfl⟩ (by omega)
          · intro c43
            intro z44 hz44 bz44
            have bz44 := bz44 (by omega)
            exact fcutJ (I := I1) (j := (jc_Charter_shareOf_a5f6d_70 x2 x3 I)) (lv' := [(0, .inr (.inr (some 187))), (1, .inr (.inr (some 1))), (2, .inl _), (3, .inl _), (4, .inr (.inl _)), (6, .inr (.inl _)), (8, .inl _), (9, .inl _)]) (And.intro rfl (And.intro rfl (And.intro rfl (And.intro rfl (And.intro rfl (And.intro rfl (And.intro rfl (And.intro rfl True.intro)))))))) ⟨_, _, _, _, _, _, rfl, rfl, ⟨by omega, hx0, hx1, (sh_l (q := z37) hx2 (by omega) (by omega) p92 (by rw [show x3 = y3 by omega]; exact d97) (by omega)), (sh_k hx3 (by omega) (by omega) (fun _ => p113) (by omega))⟩, rfl⟩ (by omega)
  · have hB0 := fB_self (zn := znJ) (K := fKc wz_8a11b) h0
    have b45 := fBd fb_177_4 (fBz h0 hB0)
    exact fcutJ (I := I) (j := (jc_Charter_shareOf_a5f6d_6 x2 x3 I)) (lv' := [(0, .inr (.inr (some 187))), (1, .inr (.inr (some 1))), (2, .inl _), (3, .inl _), (4, .inr (.inl _)), (6, .inl _)]) (And.intro rfl (And.intro rfl (And.intro rfl (And.intro rfl (And.intro rfl (And.intro rfl True.intro)))))) ⟨_, _, _, _, rfl, rfl, ⟨by omega, rfl, (ar_0 (by omega))⟩, rfl⟩ (by omega)
set_option maxRecDepth 8000 in
theorem ct_X_share_fd28f {I : fH} {x1 : Int} {x2 : Int} (h0 : fB bsJ I) (ha1 : ((-2147483648) ≤ x1 ∧ x1 ≤ 2147483647)) (ha2 : ((-2147483648) ≤ x2 ∧ x2 ≤ 2147483647)) (hp0 : okL (cLw 0 I)) : fC ρ base n F xTc vwCl xTys D dA la gJ (fbz bsJ znJ (fKc wz_8a11b) I) xm_145 [.inr (.inr (some 0)), .inl x1, .inl x2] I (fun I' r => ∃ z, r = some (.inl z) ∧ ((0 ≤ z ∧ z ≤ 1000000) ∨ z = (-1000000002) ∨ z = (-1000000001)) ∧ (z = oShare (cR 0 I) (cLw 0 I) x1 x2) ∧ (cR 0 I' = cR 0 I)) := by
  have hW : fzs wz_8a11b (fKc wz_8a11b) := fKc_ok _
  refine f_meth (rb := rbJ) (J := []) 1 400 xG xin_145 x6_145 okJ (fB_self h0) ?_ ?_
  · exact fun q h => absurd h List.not_mem_nil
  · have hB0 := fB_self (zn := znJ) (K := fKc wz_8a11b) h0
    have w908 : I 177 4 = gt (cR 0 I) 8 := (cL_f (d := 0) (a := 177) (j := 4) (r := 8) (p := 8) (I := I) (z := I 177 4) (by decide +kernel) (by decide) rfl rfl)
    refine And.intro ⟨rfl, by decide, by decide⟩ ?_
    refine Exists.intro xm_27 (And.intro mi_27 (And.intro ⟨rfl, rfl, rfl, rfl⟩ (And.intro rfl ?_)))
    refine fcallp hB0 (ct_City_isPerson_ff059 (fBz h0 hB0) (by first | exact ⟨ha1.1, ha1.2⟩ | omega)) ?_
    rintro _ ⟨z1, rfl, hz1⟩
    refine And.intro (by omega) (And.intro ?_ ?_)
    · intro c2
      try replace hz1 := wj_ hz1.2 c2
      refine And.intro (True.intro) ?_
      exact ⟨_, rfl, by omega, (if_n (by omega) rfl), (cR_fr (d := 0) cZ0_ok (fFr_of hB0) (by decide +kernel))⟩
    · intro c3
      try replace hz1 := And.intro (wk_ hz1.1 c3) (wi_ hz1.2 c3)
      refine Exists.intro xm_13 (And.intro mi_13 (And.intro ⟨rfl, rfl, rfl, rfl⟩ (And.intro True.intro ?_)))
      refine fcallp hB0 (ct_X_within_c27b1 (fBz h0 hB0) (by first | exact ⟨ha2.1, ha2.2⟩ | omega) (by first | exact ⟨by decide, by decide⟩ | omega) (by first | exact ⟨by decide, by decide⟩ | omega)) ?_
      rintro _ ⟨z4, rfl, hz4⟩
      refine And.intro (by omega) (And.intro ?_ ?_)
      · intro c5
        replace hz4 := wi_ hz4 c5
        refine And.intro ⟨rfl, by decide, by decide⟩ ?_
        refine And.intro ⟨rfl, by decide, by decide⟩ ?_
        refine Exists.intro xm_21 (And.intro mi_21 (And.intro ⟨rfl, rfl, rfl, rfl⟩ (And.intro rfl ?_)))
        refine fcallp hB0 (ct_People_isDead_edb17 (fBz h0 hB0) (by omega)) ?_
        rintro _ ⟨z6, rfl, hz6, g0z6⟩
        refine And.intro (by omega) (And.intro ?_ ?_)
        · intro c7
          try replace hz6 := wj_ hz6.2 c7
          refine And.intro ⟨rfl, by decide, by decide⟩ ?_
          refine And.intro ⟨rfl, by decide, by decide⟩ ?_
          refine Exists.intro xm_146 (And.intro mi_146 (And.intro ⟨rfl, rfl, rfl, rfl⟩ (And.intro rfl ?_)))
          refine fcall _ h0 (fzs_sub (by decide +kernel) hW) hB0 (ct_Charter_shareOf_a5f6d (fBz h0 hB0) (by omega) (by first | exact ⟨Int.le_trans (by decide) (Int.le_trans (Int.le_refl _) hz4.1), Int.le_trans (Int.le_trans hz4.2 (Int.le_refl _)) (by decide)⟩ | omega) hp0 (by omega)) ?_
          rintro IhB9 _ hB9 fhB9 ⟨z8, rfl, hz8, g0z8, g1z8⟩
          refine And.intro (True.intro) ?_
          exact ⟨_, rfl, by omega, (if_y (by omega) (cno (g0z6.elim (fun q => absurd q.1 (by omega)) (fun q => q.2)) g0z8)), (cR_fr (d := 0) cZ0_ok (fFr_of hB9) (by decide +kernel))⟩
        · intro c10
          try replace hz6 := And.intro (wk_ hz6.1 c10) (wi_ hz6.2 c10)
          refine And.intro (True.intro) ?_
          exact ⟨_, rfl, by omega, (if_y (by omega) (cy (g0z6.elim (fun q => q.2) (fun q => absurd q.1 (by omega))) rfl)), (cR_fr (d := 0) cZ0_ok (fFr_of hB0) (by decide +kernel))⟩
      · intro c11
        replace hz4 := wj_ hz4 c11
        refine And.intro (True.intro) ?_
        exact ⟨_, rfl, by omega, (if_n (by omega) rfl), (cR_fr (d := 0) cZ0_ok (fFr_of hB0) (by decide +kernel))⟩
abbrev jc_M_share_3f03c_46 (x1 : Int) (x2 : Int) (I0 : fH) : Nat → fL → List fV → fH → Prop := fun m lv st I => ∃ (y1 : Int) (y2 : Int) (y3 : Int) (y4 : Int) (y5 : Int), lv = [(0, .inr (.inr (some 740))), (1, .inl y1), (2, .inl y2), (3, .inl y3), (4, .inl y4), (5, .inl y5)] ∧ st = [] ∧ (((0 ≤ y1 ∧ y1 ≤ 23) ∧ (0 ≤ y2 ∧ y2 ≤ 999999) ∧ ((-1) ≤ y3 ∧ y3 ≤ 11) ∧ (0 ≤ y4 ∧ y4 ≤ 239976) ∧ (0 ≤ y5 ∧ y5 ≤ 24) ∧ (y4 ≤ 9999 * y5) ∧ (y3 < I 741 9) ∧ (y5 ≤ I0 741 8) ∧ (y1 = x1) ∧ (y2 = x2) ∧ (y4 ≤ 9999 * y5) ∧ (0 ≤ y4) ∧ (0 ≤ x1) ∧ (x1 < I0 741 8) ∧ (0 ≤ x2) ∧ (x2 ≤ 999999)) ∧ (y3 = cnT (mLw 741 I0) 0 (sHr (mR I0))) ∧ (y4 = sm (sPz (mR I0) (mLw 741 I0)) y5.toNat) ∧ (∀ i : Nat, (i : Int) < y5 → I 750 i = (sPz (mR I0) (mLw 741 I0)) i) ∧ (¬ sDd (mR I0) x1)) ∧ m = (26 + 1 * (24 - y5) : Int).toNat
abbrev jc_M_share_3f03c_159 (x1 : Int) (x2 : Int) (I0 : fH) : Nat → fL → List fV → fH → Prop := fun m lv st I => ∃ (y1 : Int) (y2 : Int) (y4 : Int) (y5 : Int) (y6 : Int) (y7 : Int), lv = [(0, .inr (.inr (some 740))), (1, .inl y1), (2, .inl y2), (4, .inl y4), (5, .inl y5), (6, .inl y6), (7, .inl y7)] ∧ st = [] ∧ (((0 ≤ y1 ∧ y1 ≤ 23) ∧ (0 ≤ y2 ∧ y2 ≤ 999999) ∧ (1 ≤ y4 ∧ y4 ≤ 239976) ∧ ((-23999976) ≤ y5 ∧ y5 ≤ 999999) ∧ (0 ≤ y6 ∧ y6 ≤ 24) ∧ (0 ≤ y7 ∧ y7 ≤ 24) ∧ (y7 ≤ I0 741 8) ∧ (y1 = x1) ∧ (y2 = x2) ∧ (y5 ≤ x2) ∧ (x2 - 999999 * y7 ≤ y5) ∧ (y6 ≤ y7) ∧ (0 ≤ y6) ∧ (0 ≤ x1) ∧ (x1 < I0 741 8) ∧ (0 ≤ x2) ∧ (x2 ≤ 999999)) ∧ (y4 = sm (sPz (mR I0) (mLw 741 I0)) (gt (mR I0) 8).toNat) ∧ (∀ i : Nat, (i : Int) < gt (mR I0) 8 → I 750 i = (sPz (mR I0) (mLw 741 I0)) i) ∧ (y5 = x2 - sm (qS x2 y4 (sPz (mR I0) (mLw 741 I0))) y7.toNat) ∧ (y6 = sm (ahS x1 (sPz (mR I0) (mLw 741 I0))) y7.toNat) ∧ (0 < (sPz (mR I0) (mLw 741 I0)) x1.toNat) ∧ (¬ sDd (mR I0) x1)) ∧ m = (1 + 1 * (24 - y7) : Int).toNat
set_option maxRecDepth 8000 in
theorem ct_M_share_3f03c {I : fH} {x1 : Int} {x2 : Int} (h0 : fB bsJ I) (ha1 : ((-2147483648) ≤ x1 ∧ x1 ≤ 2147483647)) (ha2 : ((-2147483648) ≤ x2 ∧ x2 ≤ 2147483647)) (hp0 : sI I 741) (hp1 : okL (mLw 741 I)) (hp2 : okE 741 I) : fC ρ base n F xTc vwCl xTys D dA la gJ (fbz bsJ znJ (fKc wz_0adc5) I) xm_432 [.inr (.inr (some 740)), .inl x1, .inl x2] I (fun I' r => ∃ z, r = some (.inl z) ∧ ((0 ≤ z ∧ z ≤ 1000000) ∨ z = (-1000000002) ∨ z = (-1000000001)) ∧ (z = oShare (mR I) (mLw 741 I) x1 x2) ∧ (mR I' = mR I)) := by
  have hW : fzs wz_0adc5 (fKc wz_0adc5) := fKc_ok _
  refine f_meth (rb := rbJ) (J := [(46, (jc_M_share_3f03c_46 x1 x2 I)), (159, (jc_M_share_3f03c_159 x1 x2 I))]) 51 400 xG xin_432 x6_432 okJ (fB_self h0) ?_ ?_
  · refine List.forall_mem_cons.mpr ⟨?_, List.forall_mem_cons.mpr ⟨?_, fun q h => absurd h List.not_mem_nil⟩⟩
    · rintro m _ _ I1 hB1 ⟨y1, y2, y3, y4, y5, rfl, rfl, ⟨hb, hx0, hx1, hx2, hx3⟩, hm⟩
      have k1 := fBz_eq hB1 (a := 741) (j := 9) (by decide +kernel)
      have k2 := fBz_eq hB1 (a := 741) (j := 8) (by decide +kernel)
      have k3 := fBz_eq hB1 (a := 741) (j := 9) (by decide +kernel)
      have b4 := fBd fb_741_8 (fBz h0 hB1)
      have b5 := fBd fb_741_9 (fBz h0 hB1)
      have eR : mR I1 = mR I := mR_fr (fFr_of hB1) (by decide +kernel)
      skip
      have eL : mLw 741 I1 = mLw 741 I := (mLw_fr (fFr_of hB1) (by decide +kernel))
      have w8 := (show I 741 8 = gt (mR I) 8 from (mR_ld (I := I) (k := 8) (by decide +kernel)).symm)
      refine And.intro ⟨rfl, by decide, by decide⟩ ?_
      refine fload1 rL_741_741_8_8_1_0 h0 hB1 ⟨by decide, by decide⟩ (by first | exact ⟨by decide, by decide⟩ | omega) ?_
      intro z6 lz6 uz6 qz6
      have pz6 := fld_at qz6 8 (by omega)
      have v54 := mL_r (i0 := 8) (i1 := 8) (m := 1) (q := 0) (by decide +kernel) qz6 (by omega) rfl
      rw [eR] at v54
      refine And.intro (And.intro (by first | exact fi_ hb.2.2.2.2.1.1 hb.2.2.2.2.1.2 rfl | omega) (by first | exact fi_ lz6 uz6 rfl | omega)) (And.intro ?_ ?_)
      · intro c7
        refine And.intro (by first | exact fi_ hb.2.2.2.1.1 hb.2.2.2.1.2 rfl | omega) (And.intro ?_ ?_)
        · intro c8
          refine And.intro (True.intro) ?_
          exact ⟨_, rfl, by omega, (if_y (by omega) (cno hx3 (sh_0 (sm_fin hx1 (by omega)) (by omega) rfl))), (mR_fr (fFr_of hB1) (by decide +kernel))⟩
        · intro c9
          refine And.intro ⟨rfl, by decide, by decide⟩ ?_
          refine fload1 rL_750_750_0_23_1_0 h0 hB1 ⟨by decide, by decide⟩ (by first | exact ⟨hb.1.1, hb.1.2⟩ | omega) ?_
          intro z10 lz10 uz10 qz10
          have p144 := (fld_at qz10 y1.toNat (by omega)).trans (hx2 y1.toNat (by omega))
          have b144 := sPz_b (r := mR I) (L := mLw 741 I) (i := y1.toNat)
          refine And.intro (by first | exact fi_ lz10 uz10 rfl | omega) (And.intro ?_ ?_)
          · intro c11
            exact fcutJ (I := I1) (j := (jc_M_share_3f03c_159 x1 x2 I)) (lv' := [(0, .inr (.inr (some 740))), (1, .inl _), (2, .inl _), (4, .inl _), (5, .inl _), (6, .inl _), (7, .inl _)]) (And.intro rfl (And.intro rfl (And.intro rfl (And.intro rfl (And.intro rfl (And.intro rfl (And.intro rfl True.intro))))))) ⟨_, _, _, _, _, _, rfl, rfl, ⟨by omega, (sm_fin hx1 (by omega)), (fun i l => hx2 i (by omega)), (show y2 = x2 - sm _ 0 from (by show y2 = x2 - 0; omega)), rfl, (by rw [show x1 = y1 by omega]; omega), hx3⟩, rfl⟩ (by omega)
          · intro c12
            refine And.intro (True.intro) ?_
            exact ⟨_, rfl, by omega, (if_y (by omega) (cno hx3 (sh_p (sm_fin hx1 (by omega)) (p144.trans (by rw [show x1 = y1 by omega])) (by omega) rfl))), (mR_fr (fFr_of hB1) (by decide +kernel))⟩
      · intro c13
        refine Exists.intro xm_258 (And.intro mi_258 (And.intro ⟨rfl, rfl, rfl, rfl⟩ (And.intro rfl ?_)))
        refine fcall _ h0 (fzs_sub (by decide +kernel) hW) hB1 (ct_M_nameOne_43c7d (fBz h0 hB1) (by first | exact ⟨hb.2.2.2.2.1.1, Int.le_trans (Int.le_sub_one_of_lt (Int.lt_of_lt_of_le c13 uz6)) (by decide)⟩ | omega)) ?_
        rintro IhB15 _ hB15 fhB15 ⟨rfl, hz14, g0z14, g1z14⟩
        have t16 := fhB15 741 8 (by decide +kernel)
        have k17 := fBz_eq hB15 (a := 741) (j := 9) (by decide +kernel)
        have k18 := fBz_eq hB15 (a := 741) (j := 8) (by decide +kernel)
        have k19 := fBz_eq hB15 (a := 741) (j := 9) (by decide +kernel)
        rw [eR] at g0z14
        have eL2 : mLw 741 IhB15 = mLw 741 I := (mLw_fr (fFr_of hB15) (by decide +kernel))
        have eQ : mR IhB15 = mR I := mR_fr (fFr_of hB15) (by decide +kernel)
        have a61 : ∀ i : Nat, (i : Int) < y5 → IhB15 750 i = (sPz (mR I) (mLw 741 I)) i := fun i l => (fFr_at fhB15 750 (by decide +kernel) rfl i).trans (hx2 i l)
        refine Exists.intro xm_248 (And.intro mi_248 (And.intro ⟨rfl, rfl, rfl, rfl⟩ (And.intro rfl ?_)))
        refine fcallp hB15 (ct_M_isDead_21e1a (fBz h0 hB15) (by first | exact ⟨hb.2.2.2.2.1.1, Int.le_trans (Int.le_sub_one_of_lt (Int.lt_of_lt_of_le c13 uz6)) (by decide)⟩ | omega)) ?_
        rintro _ ⟨z20, rfl, hz20, g0z20⟩
        try rw [g1z14, eR] at g0z20
        refine And.intro (by omega) (And.intro ?_ ?_)
        · intro c21
          try replace hz20 := wj_ hz20.2 c21
          refine And.intro (by first | exact fi_ hb.2.2.1.1 hb.2.2.1.2 rfl | omega) (And.intro ?_ ?_)
          · intro c22
            refine Exists.intro xm_259 (And.intro mi_259 (And.intro ⟨rfl, rfl, rfl, rfl⟩ (And.intro rfl ?_)))
            refine fcall _ h0 (fzs_sub (by decide +kernel) hW) hB15 (ct_M_worked_0bc29 (fBz h0 hB15) (by first | exact ⟨Int.le_trans (by decide) (Int.le_trans (Int.le_refl _) c22), hb.2.2.1.2⟩ | omega) (sI_keep hp0 h0 hB15 (by decide +kernel)) (by omega) (by rw [eL2]; exact hp1) (okE_fr (fFr_of hB15) (by decide +kernel) hp2) (by rw [eL2, hx0]; exact (cnT_key (by omega)).2)) ?_
            rintro IhB24 _ hB24 fhB24 ⟨z23, rfl, hz23, g0z23⟩
            have t25 := fhB24 741 8 (by decide +kernel)
            have k26 := fBz_eq hB24 (a := 741) (j := 9) (by decide +kernel)
            have k27 := fBz_eq hB24 (a := 741) (j := 8) (by decide +kernel)
            have k28 := fBz_eq hB24 (a := 741) (j := 9) (by decide +kernel)
            have r87 := mR_fr fhB24 (by decide +kernel)
            have a87 : ∀ i : Nat, (i : Int) < y5 → IhB24 750 i = (sPz (mR I) (mLw 741 I)) i := fun i l => (fFr_at fhB24 750 (by decide +kernel) rfl i).trans (a61 i l)
            refine And.intro ⟨rfl, by decide, by decide⟩ ?_
            refine And.intro (by first | exact fi_ hz23.1 hz23.2 rfl | omega) (And.intro ?_ ?_)
            · intro c29
              refine Exists.intro xm_291 (And.intro mi_291 (And.intro ⟨rfl, rfl, rfl, rfl⟩ (And.intro True.intro ?_)))
              refine fcallp hB24 (ct_M_least_31c1d (fBz h0 hB24) (by first | exact ⟨Int.le_trans (by decide) (Int.le_trans (Int.le_refl _) c29), hz23.2⟩ | omega) (by first | exact ⟨by decide, by decide⟩ | omega)) ?_
              rintro _ ⟨z30, rfl, hz30⟩
              refine fstore1 rS_750_750_0_23_1_0 (fzs_sub (by decide +kernel) hW) ⟨by decide, by decide⟩ (by first | exact ⟨hb.2.2.2.2.1.1, Int.le_trans (Int.le_sub_one_of_lt (Int.lt_of_lt_of_le c13 uz6)) (by decide)⟩ | omega) (by first | exact ⟨hz30.1.1, hz30.1.2⟩ | omega) ?_
              intro IhB31 ehB31 hB31
              have t32 := fup_self ehB31
              have t33 : IhB31 741 8 = IhB24 741 8 := (congrFun (congrFun ehB31 741) 8).trans (fup_ne (by first | exact Or.inl (by decide) | omega))
              have k34 := fBz_eq hB31 (a := 741) (j := 9) (by decide +kernel)
              have k35 := fBz_eq hB31 (a := 741) (j := 8) (by decide +kernel)
              have k36 := fBz_eq hB31 (a := 741) (j := 9) (by decide +kernel)
              have r115 := mR_ot ehB31 (by decide)
              refine And.intro ⟨rfl, by decide, by decide⟩ ?_
              refine fload1 rL_750_750_0_23_1_0 h0 hB31 ⟨by decide, by decide⟩ (by first | exact ⟨hb.2.2.2.2.1.1, Int.le_trans (Int.le_sub_one_of_lt (Int.lt_of_lt_of_le c13 uz6)) (by decide)⟩ | omega) ?_
              intro z37 lz37 uz37 qz37
              have v124 := fld_at qz37 y5.toNat (by omega)
              rw [fup_at ehB31 y5.toNat (by omega)] at v124
              intro z38 hz38 ez38 bz38
              try replace bz38 := bz38 (by omega)
              exact fcutJ (I := IhB31) (j := (jc_M_share_3f03c_46 x1 x2 I)) (lv' := [(0, .inr (.inr (some 740))), (1, .inl _), (2, .inl _), (3, .inl _), (4, .inl _), (5, .inl _)]) (And.intro rfl (And.intro rfl (And.intro rfl (And.intro rfl (And.intro rfl (And.intro rfl True.intro)))))) ⟨_, _, _, _, _, rfl, rfl, ⟨by omega, hx0, (sm_at (v := z37) hx1 (by omega) (by omega) (v124.trans (pt_w (w := y5) (by omega) (g0z20.elim (fun q => absurd q.1 (by omega)) (fun q => q.2)) hx0 (by omega) eL2 hp1 g0z23 (nmW_4 eQ g0z14 (Or.inr rfl)) (by unfold clp; (repeat' split) <;> omega))) (by omega)), (ar_S a87 (pn_st ehB31 rfl) (by omega) (by omega) (pt_w (w := y5) (by omega) (g0z20.elim (fun q => absurd q.1 (by omega)) (fun q => q.2)) hx0 (by omega) eL2 hp1 g0z23 (nmW_4 eQ g0z14 (Or.inr rfl)) (by unfold clp; (repeat' split) <;> omega))), hx3⟩, rfl⟩ (by omega)
            · intro c39
              refine fstore1 rS_750_750_0_23_1_0 (fzs_sub (by decide +kernel) hW) ⟨by decide, by decide⟩ (by first | exact ⟨hb.2.2.2.2.1.1, Int.le_trans (Int.le_sub_one_of_lt (Int.lt_of_lt_of_le c13 uz6)) (by decide)⟩ | omega) (by first | exact ⟨by decide, by decide⟩ | omega) ?_
              intro IhB40 ehB40 hB40
              have t41 := fup_self ehB40
              have t42 : IhB40 741 8 = IhB24 741 8 := (congrFun (congrFun ehB40 741) 8).trans (fup_ne (by first | exact Or.inl (by decide) | omega))
              have k43 := fBz_eq hB40 (a := 741) (j := 9) (by decide +kernel)
              have k44 := fBz_eq hB40 (a := 741) (j := 8) (by decide +kernel)
              have k45 := fBz_eq hB40 (a := 741) (j := 9) (by decide +kernel)
              have r115 := mR_ot ehB40 (by decide)
              refine And.intro ⟨rfl, by decide, by decide⟩ ?_
              refine fload1 rL_750_750_0_23_1_0 h0 hB40 ⟨by decide, by decide⟩ (by first | exact ⟨hb.2.2.2.2.1.1, Int.le_trans (Int.le_sub_one_of_lt (Int.lt_of_lt_of_le c13 uz6)) (by decide)⟩ | omega) ?_
              intro z46 lz46 uz46 qz46
              have v124 := fld_at qz46 y5.toNat (by omega)
              rw [fup_at ehB40 y5.toNat (by omega)] at v124
              intro z47 hz47 ez47 bz47
              try replace bz47 := bz47 (by omega)
              exact fcutJ (I := IhB40) (j := (jc_M_share_3f03c_46 x1 x2 I)) (lv' := [(0, .inr (.inr (some 740))), (1, .inl _), (2, .inl _), (3, .inl _), (4, .inl _), (5, .inl _)]) (And.intro rfl (And.intro rfl (And.intro rfl (And.intro rfl (And.intro rfl (And.intro rfl True.intro)))))) ⟨_, _, _, _, _, rfl, rfl, ⟨by omega, hx0, (sm_at (v := z46) hx1 (by omega) (by omega) (v124.trans (pt_w (w := y5) (by omega) (g0z20.elim (fun q => absurd q.1 (by omega)) (fun q => q.2)) hx0 (by omega) eL2 hp1 g0z23 (nmW_4 eQ g0z14 (Or.inr rfl)) (by unfold clp; (repeat' split) <;> omega))) (by omega)), (ar_S a87 (pn_st ehB40 rfl) (by omega) (by omega) (pt_w (w := y5) (by omega) (g0z20.elim (fun q => absurd q.1 (by omega)) (fun q => q.2)) hx0 (by omega) eL2 hp1 g0z23 (nmW_4 eQ g0z14 (Or.inr rfl)) (by unfold clp; (repeat' split) <;> omega))), hx3⟩, rfl⟩ (by omega)
          · intro c48
            refine And.intro ⟨rfl, by decide, by decide⟩ ?_
            refine And.intro (by first | exact ⟨by decide, by decide⟩ | omega) (And.intro ?_ ?_)
            · intro c49
              refine Exists.intro xm_291 (And.intro mi_291 (And.intro ⟨rfl, rfl, rfl, rfl⟩ (And.intro True.intro ?_)))
              refine fcallp hB15 (ct_M_least_31c1d (fBz h0 hB15) (by first | exact ⟨by decide, by decide⟩ | omega) (by first | exact ⟨by decide, by decide⟩ | omega)) ?_
              rintro _ ⟨z50, rfl, hz50⟩
              refine fstore1 rS_750_750_0_23_1_0 (fzs_sub (by decide +kernel) hW) ⟨by decide, by decide⟩ (by first | exact ⟨hb.2.2.2.2.1.1, Int.le_trans (Int.le_sub_one_of_lt (Int.lt_of_lt_of_le c13 uz6)) (by decide)⟩ | omega) (by first | exact ⟨hz50.1.1, hz50.1.2⟩ | omega) ?_
              intro IhB51 ehB51 hB51
              have t52 := fup_self ehB51
              have t53 : IhB51 741 8 = IhB15 741 8 := (congrFun (congrFun ehB51 741) 8).trans (fup_ne (by first | exact Or.inl (by decide) | omega))
              have k54 := fBz_eq hB51 (a := 741) (j := 9) (by decide +kernel)
              have k55 := fBz_eq hB51 (a := 741) (j := 8) (by decide +kernel)
              have k56 := fBz_eq hB51 (a := 741) (j := 9) (by decide +kernel)
              have r115 := mR_ot ehB51 (by decide)
              refine And.intro ⟨rfl, by decide, by decide⟩ ?_
              refine fload1 rL_750_750_0_23_1_0 h0 hB51 ⟨by decide, by decide⟩ (by first | exact ⟨hb.2.2.2.2.1.1, Int.le_trans (Int.le_sub_one_of_lt (Int.lt_of_lt_of_le c13 uz6)) (by decide)⟩ | omega) ?_
              intro z57 lz57 uz57 qz57
              have v124 := fld_at qz57 y5.toNat (by omega)
              rw [fup_at ehB51 y5.toNat (by omega)] at v124
              intro z58 hz58 ez58 bz58
              try replace bz58 := bz58 (by omega)
              exact fcutJ (I := IhB51) (j := (jc_M_share_3f03c_46 x1 x2 I)) (lv' := [(0, .inr (.inr (some 740))), (1, .inl _), (2, .inl _), (3, .inl _), (4, .inl _), (5, .inl _)]) (And.intro rfl (And.intro rfl (And.intro rfl (And.intro rfl (And.intro rfl (And.intro rfl True.intro)))))) ⟨_, _, _, _, _, rfl, rfl, ⟨by omega, hx0, (sm_at (v := z57) hx1 (by omega) (by omega) (v124.trans (pt_1 (w := y5) (by omega) (g0z20.elim (fun q => absurd q.1 (by omega)) (fun q => q.2)) hx0 (by omega) (by omega))) (by omega)), (ar_S a61 (pn_st ehB51 rfl) (by omega) (by omega) (pt_1 (w := y5) (by omega) (g0z20.elim (fun q => absurd q.1 (by omega)) (fun q => q.2)) hx0 (by omega) (by omega))), hx3⟩, rfl⟩ (by omega)
            · intro c59
              refine fstore1 rS_750_750_0_23_1_0 (fzs_sub (by decide +kernel) hW) ⟨by decide, by decide⟩ (by first | exact ⟨hb.2.2.2.2.1.1, Int.le_trans (Int.le_sub_one_of_lt (Int.lt_of_lt_of_le c13 uz6)) (by decide)⟩ | omega) (by first | exact ⟨by decide, by decide⟩ | omega) ?_
              intro IhB60 ehB60 hB60
              have t61 := fup_self ehB60
              have t62 : IhB60 741 8 = IhB15 741 8 := (congrFun (congrFun ehB60 741) 8).trans (fup_ne (by first | exact Or.inl (by decide) | omega))
              have k63 := fBz_eq hB60 (a := 741) (j := 9) (by decide +kernel)
              have k64 := fBz_eq hB60 (a := 741) (j := 8) (by decide +kernel)
              have k65 := fBz_eq hB60 (a := 741) (j := 9) (by decide +kernel)
              have r115 := mR_ot ehB60 (by decide)
              refine And.intro ⟨rfl, by decide, by decide⟩ ?_
              refine fload1 rL_750_750_0_23_1_0 h0 hB60 ⟨by decide, by decide⟩ (by first | exact ⟨hb.2.2.2.2.1.1, Int.le_trans (Int.le_sub_one_of_lt (Int.lt_of_lt_of_le c13 uz6)) (by decide)⟩ | omega) ?_
              intro z66 lz66 uz66 qz66
              have v124 := fld_at qz66 y5.toNat (by omega)
              rw [fup_at ehB60 y5.toNat (by omega)] at v124
              intro z67 hz67 ez67 bz67
              try replace bz67 := bz67 (by omega)
              exact fcutJ (I := IhB60) (j := (jc_M_share_3f03c_46 x1 x2 I)) (lv' := [(0, .inr (.inr (some 740))), (1, .inl _), (2, .inl _), (3, .inl _), (4, .inl _), (5, .inl _)]) (And.intro rfl (And.intro rfl (And.intro rfl (And.intro rfl (And.intro rfl (And.intro rfl True.intro)))))) ⟨_, _, _, _, _, rfl, rfl, ⟨by omega, hx0, (sm_at (v := z66) hx1 (by omega) (by omega) (v124.trans (pt_1 (w := y5) (by omega) (g0z20.elim (fun q => absurd q.1 (by omega)) (fun q => q.2)) hx0 (by omega) (by omega))) (by omega)), (ar_S a61 (pn_st ehB60 rfl) (by omega) (by omega) (pt_1 (w := y5) (by omega) (g0z20.elim (fun q => absurd q.1 (by omega)) (fun q => q.2)) hx0 (by omega) (by omega))), hx3⟩, rfl⟩ (by omega)
        · intro c68
          try replace hz20 := And.intro (wk_ hz20.1 c68) (wi_ hz20.2 c68)
          refine And.intro ⟨rfl, by decide, by decide⟩ ?_
          refine And.intro (by first | exact ⟨by decide, by decide⟩ | omega) (And.intro ?_ ?_)
          · intro c69
            refine Exists.intro xm_291 (And.intro mi_291 (And.intro ⟨rfl, rfl, rfl, rfl⟩ (And.intro True.intro ?_)))
            refine fcallp hB15 (ct_M_least_31c1d (fBz h0 hB15) (by first | exact ⟨by decide, by decide⟩ | omega) (by first | exact ⟨by decide, by decide⟩ | omega)) ?_
            rintro _ ⟨z70, rfl, hz70⟩
            refine fstore1 rS_750_750_0_23_1_0 (fzs_sub (by decide +kernel) hW) ⟨by decide, by decide⟩ (by first | exact ⟨hb.2.2.2.2.1.1, Int.le_trans (Int.le_sub_one_of_lt (Int.lt_of_lt_of_le c13 uz6)) (by decide)⟩ | omega) (by first | exact ⟨hz70.1.1, hz70.1.2⟩ | omega) ?_
            intro IhB71 ehB71 hB71
            have t72 := fup_self ehB71
            have t73 : IhB71 741 8 = IhB15 741 8 := (congrFun (congrFun ehB71 741) 8).trans (fup_ne (by first | exact Or.inl (by decide) | omega))
            have k74 := fBz_eq hB71 (a := 741) (j := 9) (by decide +kernel)
            have k75 := fBz_eq hB71 (a := 741) (j := 8) (by decide +kernel)
            have k76 := fBz_eq hB71 (a := 741) (j := 9) (by decide +kernel)
            have r115 := mR_ot ehB71 (by decide)
            refine And.intro ⟨rfl, by decide, by decide⟩ ?_
            refine fload1 rL_750_750_0_23_1_0 h0 hB71 ⟨by decide, by decide⟩ (by first | exact ⟨hb.2.2.2.2.1.1, Int.le_trans (Int.le_sub_one_of_lt (Int.lt_of_lt_of_le c13 uz6)) (by decide)⟩ | omega) ?_
            intro z77 lz77 uz77 qz77
            have v124 := fld_at qz77 y5.toNat (by omega)
            rw [fup_at ehB71 y5.toNat (by omega)] at v124
            intro z78 hz78 ez78 bz78
            try replace bz78 := bz78 (by omega)
            exact fcutJ (I := IhB71) (j := (jc_M_share_3f03c_46 x1 x2 I)) (lv' := [(0, .inr (.inr (some 740))), (1, .inl _), (2, .inl _), (3, .inl _), (4, .inl _), (5, .inl _)]) (And.intro rfl (And.intro rfl (And.intro rfl (And.intro rfl (And.intro rfl (And.intro rfl True.intro)))))) ⟨_, _, _, _, _, rfl, rfl, ⟨by omega, hx0, (sm_at (v := z77) hx1 (by omega) (by omega) (v124.trans (pt_d (w := y5) (by omega) (g0z20.elim (fun q => q.2) (fun q => absurd q.1 (by omega))) (by omega))) (by omega)), (ar_S a61 (pn_st ehB71 rfl) (by omega) (by omega) (pt_d (w := y5) (by omega) (g0z20.elim (fun q => q.2) (fun q => absurd q.1 (by omega))) (by omega))), hx3⟩, rfl⟩ (by omega)
          · intro c79
            refine fstore1 rS_750_750_0_23_1_0 (fzs_sub (by decide +kernel) hW) ⟨by decide, by decide⟩ (by first | exact ⟨hb.2.2.2.2.1.1, Int.le_trans (Int.le_sub_one_of_lt (Int.lt_of_lt_of_le c13 uz6)) (by decide)⟩ | omega) (by first | exact ⟨by decide, by decide⟩ | omega) ?_
            intro IhB80 ehB80 hB80
            have t81 := fup_self ehB80
            have t82 : IhB80 741 8 = IhB15 741 8 := (congrFun (congrFun ehB80 741) 8).trans (fup_ne (by first | exact Or.inl (by decide) | omega))
            have k83 := fBz_eq hB80 (a := 741) (j := 9) (by decide +kernel)
            have k84 := fBz_eq hB80 (a := 741) (j := 8) (by decide +kernel)
            have k85 := fBz_eq hB80 (a := 741) (j := 9) (by decide +kernel)
            have r115 := mR_ot ehB80 (by decide)
            refine And.intro ⟨rfl, by decide, by decide⟩ ?_
            refine fload1 rL_750_750_0_23_1_0 h0 hB80 ⟨by decide, by decide⟩ (by first | exact ⟨hb.2.2.2.2.1.1, Int.le_trans (Int.le_sub_one_of_lt (Int.lt_of_lt_of_le c13 uz6)) (by decide)⟩ | omega) ?_
            intro z86 lz86 uz86 qz86
            have v124 := fld_at qz86 y5.toNat (by omega)
            rw [fup_at ehB80 y5.toNat (by omega)] at v124
            intro z87 hz87 ez87 bz87
            try replace bz87 := bz87 (by omega)
            exact fcutJ (I := IhB80) (j := (jc_M_share_3f03c_46 x1 x2 I)) (lv' := [(0, .inr (.inr (some 740))), (1, .inl _), (2, .inl _), (3, .inl _), (4, .inl _), (5, .inl _)]) (And.intro rfl (And.intro rfl (And.intro rfl (And.intro rfl (And.intro rfl (And.intro rfl True.intro)))))) ⟨_, _, _, _, _, rfl, rfl, ⟨by omega, hx0, (sm_at (v := z86) hx1 (by omega) (by omega) (v124.trans (pt_d (w := y5) (by omega) (g0z20.elim (fun q => q.2) (fun q => absurd q.1 (by omega))) (by omega))) (by omega)), (ar_S a61 (pn_st ehB80 rfl) (by omega) (by omega) (pt_d (w := y5) (by omega) (g0z20.elim (fun q => q.2) (fun q => absurd q.1 (by omega))) (by omega))), hx3⟩, rfl⟩ (by omega)
    · rintro m _ _ I1 hB1 ⟨y1, y2, y4, y5, y6, y7, rfl, rfl, ⟨hb, hx0, hx1, hx2, hx3, hx4, hx5⟩, hm⟩
      have k88 := fBz_eq hB1 (a := 741) (j := 9) (by decide +kernel)
      have k89 := fBz_eq hB1 (a := 741) (j := 8) (by decide +kernel)
      have k90 := fBz_eq hB1 (a := 741) (j := 9) (by decide +kernel)
      have b91 := fBd fb_741_8 (fBz h0 hB1)
      have b92 := fBd fb_741_9 (fBz h0 hB1)
      have eR : mR I1 = mR I := mR_fr (fFr_of hB1) (by decide +kernel)
      skip
      have w8 := (show I 741 8 = gt (mR I) 8 from (mR_ld (I := I) (k := 8) (by decide +kernel)).symm)
      refine And.intro ⟨rfl, by decide, by decide⟩ ?_
      refine fload1 rL_741_741_8_8_1_0 h0 hB1 ⟨by decide, by decide⟩ (by first | exact ⟨by decide, by decide⟩ | omega) ?_
      intro z93 lz93 uz93 qz93
      have pz93 := fld_at qz93 8 (by omega)
      have v167 := mL_r (i0 := 8) (i1 := 8) (m := 1) (q := 0) (by decide +kernel) qz93 (by omega) rfl
      rw [eR] at v167
      refine And.intro (And.intro (by first | exact fi_ hb.2.2.2.2.2.1.1 hb.2.2.2.2.2.1.2 rfl | omega) (by first | exact fi_ lz93 uz93 rfl | omega)) (And.intro ?_ ?_)
      · intro c94
        refine And.intro (by first | exact fi_ hb.2.1.1 hb.2.1.2 rfl | omega) ?_
        refine And.intro ⟨rfl, by decide, by decide⟩ ?_
        refine fload1 rL_750_750_0_23_1_0 h0 hB1 ⟨by decide, by decide⟩ (by first | exact ⟨hb.1.1, hb.1.2⟩ | omega) ?_
        intro z95 lz95 uz95 qz95
        have p231 := (fld_at qz95 y1.toNat (by omega)).trans (hx1 y1.toNat (by omega))
        have b231 := sPz_b (r := mR I) (L := mLw 741 I) (i := y1.toNat)
        have s231 := (sm_ge (P := (sPz (mR I) (mLw 741 I))) (m := (gt (mR I) 8).toNat) (i := y1.toNat) (fun i => sPz_b.1) (by omega)).1
        refine And.intro (by first | exact fi_ lz95 uz95 rfl | omega) ?_
        intro z96 hz96 ez96 bz96
        have m233 := mul_rng (x := y2) (A := 999999) (by omega) (by omega) (y := z95) (B := 9999) (by omega) (by omega)
        have k233 := bz96 ⟨by omega, by omega⟩
        refine And.intro (by first | exact fi_ hb.2.2.1.1 hb.2.2.1.2 rfl | omega) ?_
        refine And.intro (And.intro (by omega) (by omega)) ?_
        intro z97 hz97 ez97
        have d237 := xldv_t ⟨by omega, by omega⟩ ⟨by omega, by omega⟩ (by omega) hz97 ez97
        rw [Int.tdiv_eq_ediv_of_nonneg (by omega), k233] at d237
        have q237 := qt_le (n := y2) (p := z95) (a := y4) (by omega) (by omega) (by omega) (by omega)
        intro z98 hz98 ez98 bz98
        clear ez98
        have bz98 := bz98 (by omega)
        refine And.intro (And.intro (by first | exact fi_ hb.2.2.2.2.1.1 hb.2.2.2.2.1.2 rfl | omega) (by first | exact fi_ hb.2.2.2.1.1 hb.2.2.2.1.2 rfl | omega)) (And.intro ?_ ?_)
        · intro c99
          intro z100 hz100 ez100 bz100
          have bz100 := bz100 (by omega)
          refine And.intro (True.intro) ?_
          exact ⟨_, rfl, by omega, (if_y (by omega) (cno hx5 (sh_of (w := z97) hx0 (by omega) (p231.trans (by rw [show x1 = y1 by omega])) (by rw [show x2 = y2 by omega]; omega) (sm_fin_l hx2 (by omega)) (sm_fin hx3 (by omega)) (by rw [show x1 = y1 by omega] at hx4; omega)))), (mR_fr (fFr_of hB1) (by decide +kernel))⟩
        · intro c101
          intro z102 hz102 ez102 bz102
          have bz102 := bz102 (by omega)
          refine And.intro (True.intro) ?_
          exact ⟨_, rfl, by omega, (if_y (by omega) (cno hx5 (sh_of (w := z97) hx0 (by omega) (p231.trans (by rw [show x1 = y1 by omega])) (by rw [show x2 = y2 by omega]; omega) (sm_fin_l hx2 (by omega)) (sm_fin hx3 (by omega)) (by rw [show x1 = y1 by omega] at hx4; omega)))), (mR_fr (fFr_of hB1) (by decide +kernel))⟩
      · intro c103
        refine And.intro (by first | exact fi_ hb.2.1.1 hb.2.1.2 rfl | omega) ?_
        refine And.intro ⟨rfl, by decide, by decide⟩ ?_
        refine fload1 rL_750_750_0_23_1_0 h0 hB1 ⟨by decide, by decide⟩ (by first | exact ⟨hb.2.2.2.2.2.1.1, Int.le_trans (Int.le_sub_one_of_lt (Int.lt_of_lt_of_le c103 uz93)) (by decide)⟩ | omega) ?_
        intro z104 lz104 uz104 qz104
        have p181 := (fld_at qz104 y7.toNat (by omega)).trans (hx1 y7.toNat (by omega))
        have b181 := sPz_b (r := mR I) (L := mLw 741 I) (i := y7.toNat)
        have s181 := (sm_ge (P := (sPz (mR I) (mLw 741 I))) (m := (gt (mR I) 8).toNat) (i := y7.toNat) (fun i => sPz_b.1) (by omega)).1
        refine And.intro (by first | exact fi_ lz104 uz104 rfl | omega) ?_
        intro z105 hz105 ez105 bz105
        have m183 := mul_rng (x := y2) (A := 999999) (by omega) (by omega) (y := z104) (B := 9999) (by omega) (by omega)
        have k183 := bz105 ⟨by omega, by omega⟩
        refine And.intro (by first | exact fi_ hb.2.2.1.1 hb.2.2.1.2 rfl | omega) ?_
        refine And.intro (And.intro (by omega) (by omega)) ?_
        intro z106 hz106 ez106
        have d187 := xldv_t ⟨by omega, by omega⟩ ⟨by omega, by omega⟩ (by omega) hz106 ez106
        rw [Int.tdiv_eq_ediv_of_nonneg (by omega), k183] at d187
        have q187 := qt_le (n := y2) (p := z104) (a := y4) (by omega) (by omega) (by omega) (by omega)
        intro z107 hz107 ez107 bz107
        clear ez107
        have bz107 := bz107 (by omega)
        intro z108 hz108 ez108 bz108
        have bz108 := bz108 (by omega)
        refine And.intro (And.intro (by first | exact fi_ hb.2.2.2.2.2.1.1 (Int.le_sub_one_of_lt (Int.lt_of_lt_of_le c103 uz93)) rfl | omega) (by first | exact fi_ hb.1.1 hb.1.2 rfl | omega)) (And.intro ?_ ?_)
        · intro c109
          intro z110 hz110 ez110 bz110
          have bz110 := bz110 (by omega)
          exact fcutJ (I := I1) (j := (jc_M_share_3f03c_159 x1 x2 I)) (lv' := [(0, .inr (.inr (some 740))), (1, .inl _), (2, .inl _), (4, .inl _), (5, .inl _), (6, .inl _), (7, .inl _)]) (And.intro rfl (And.intro rfl (And.intro rfl (And.intro rfl (And.intro rfl (And.intro rfl (And.intro rfl True.intro))))))) ⟨_, _, _, _, _, _, rfl, rfl, ⟨by omega, hx0, hx1, (sh_l (q := z106) hx2 (by omega) (by omega) p181 (by rw [show x2 = y2 by omega]; exact d187) (by omega)), (sh_k (x := 0) hx3 (by omega) (by omega) (fun q => absurd q (by omega)) (by omega)), hx4, hx5⟩, rfl⟩ (by omega)
        · intro c111
          refine And.intro ⟨rfl, by decide, by decide⟩ ?_
          refine fload1 rL_750_750_0_23_1_0 h0 hB1 ⟨by decide, by decide⟩ (by first | exact ⟨hb.2.2.2.2.2.1.1, Int.le_trans (Int.le_sub_one_of_lt (Int.lt_of_lt_of_le c111 hb.1.2)) (by decide)⟩ | omega) ?_
          intro z112 lz112 uz112 qz112
          have p206 := (fld_at qz112 y7.toNat (by omega)).trans (hx1 y7.toNat (by omega))
          refine And.intro (by first | exact fi_ lz112 uz112 rfl | omega) (And.intro ?_ ?_)
          · intro c113
            intro z114 hz114 ez114 bz114
            have bz114 := bz114 (by omega)
            exact fcutJ (I := I1) (j := (jc_M_share_3f03c_159 x1 x2 I)) (lv' := [(0, .inr (.inr (some 740))), (1, .inl _), (2, .inl _), (4, .inl _), (5, .inl _), (6, .inl _), (7, .inl _)]) (And.intro rfl (And.intro rfl (And.intro rfl (And.intro rfl (And.intro rfl (And.intro rfl (And.intro rfl True.intro))))))) ⟨_, _, _, _, _, _, rfl, rfl, ⟨by omega, hx0, hx1, (sh_l (q := z106) hx2 (by omega) (by omega) p181 (by rw [show x2 = y2 by omega]; exact d187) (by omega)), (sh_k hx3 (by omega) (by omega) (fun _ => p206) (by omega)), hx4, hx5⟩, rfl⟩ (by omega)
          · intro c115
            intro z116 hz116 ez116 bz116
            have bz116 := bz116 (by omega)
            exact fcutJ (I := I1) (j := (jc_M_share_3f03c_159 x1 x2 I)) (lv' := [(0, .inr (.inr (some 740))), (1, .inl _), (2, .inl _), (4, .inl _), (5, .inl _), (6, .inl _), (7, .inl _)]) (And.intro rfl (And.intro rfl (And.intro rfl (And.intro rfl (And.intro rfl (And.intro rfl (And.intro rfl True.intro))))))) ⟨_, _, _, _, _, _, rfl, rfl, ⟨by omega, hx0, hx1, (sh_l (q := z106) hx2 (by omega) (by omega) p181 (by rw [show x2 = y2 by omega]; exact d187) (by omega)), (sh_k hx3 (by omega) (by omega) (fun _ => p206) (by omega)), hx4, hx5⟩, rfl⟩ (by omega)
  · have hB0 := fB_self (zn := znJ) (K := fKc wz_0adc5) h0
    have b117 := fBd fb_741_8 (fBz h0 hB0)
    have b118 := fBd fb_741_9 (fBz h0 hB0)
    have w908 : I 741 8 = gt (mR I) 8 := (show I 741 8 = gt (mR I) 8 from (mR_ld (I := I) (k := 8) (by decide +kernel)).symm)
    refine Exists.intro xm_252 (And.intro mi_252 (And.intro ⟨rfl, rfl, rfl, rfl⟩ (And.intro rfl ?_)))
    refine fcallp hB0 (ct_M_isPerson_4d30c (fBz h0 hB0) (by first | exact ⟨ha1.1, ha1.2⟩ | omega)) ?_
    rintro _ ⟨z119, rfl, hz119⟩
    refine And.intro (by omega) (And.intro ?_ ?_)
    · intro c120
      try replace hz119 := wj_ hz119.2 c120
      refine And.intro (True.intro) ?_
      exact ⟨_, rfl, by omega, (if_n (by omega) rfl), (mR_fr (fFr_of hB0) (by decide +kernel))⟩
    · intro c121
      try replace hz119 := And.intro (wk_ hz119.1 c121) (wi_ hz119.2 c121)
      refine And.intro (by first | exact fi_ ha2.1 ha2.2 rfl | omega) ?_
      refine Exists.intro xm_238 (And.intro mi_238 (And.intro ⟨rfl, rfl, rfl, rfl⟩ (And.intro True.intro ?_)))
      refine fcallp hB0 (ct_M_isIn_27230 (fBz h0 hB0) (by first | exact ⟨ha2.1, ha2.2⟩ | omega) (by first | exact ⟨by decide, by decide⟩ | omega) (by first | exact ⟨by decide, by decide⟩ | omega)) ?_
      rintro _ ⟨z122, rfl, hz122⟩
      refine And.intro (by omega) (And.intro ?_ ?_)
      · intro c123
        replace hz122 := wi_ hz122 c123
        refine Exists.intro xm_248 (And.intro mi_248 (And.intro ⟨rfl, rfl, rfl, rfl⟩ (And.intro rfl ?_)))
        refine fcallp hB0 (ct_M_isDead_21e1a (fBz h0 hB0) (by omega)) ?_
        rintro _ ⟨z124, rfl, hz124, g0z124⟩
        refine And.intro (by omega) (And.intro ?_ ?_)
        · intro c125
          try replace hz124 := wj_ hz124.2 c125
          refine Exists.intro xm_254 (And.intro mi_254 (And.intro ⟨rfl, rfl, rfl, rfl⟩ (And.intro rfl ?_)))
          refine fcallp hB0 (ct_M_counts_1278f (fBz h0 hB0) (by first | exact ⟨by decide, by decide⟩ | omega)) ?_
          rintro _ ⟨z126, rfl, hz126, g0z126⟩
          exact fcutJ (I := I) (j := (jc_M_share_3f03c_46 x1 x2 I)) (lv' := [(0, .inr (.inr (some 740))), (1, .inl _), (2, .inl _), (3, .inl _), (4, .inl _), (5, .inl _)]) (And.intro rfl (And.intro rfl (And.intro rfl (And.intro rfl (And.intro rfl (And.intro rfl True.intro)))))) ⟨_, _, _, _, _, rfl, rfl, ⟨by omega, g0z126, rfl, (ar_0 (by omega)), (g0z124.elim (fun q => absurd q.1 (by omega)) (fun q => q.2))⟩, rfl⟩ (by omega)
        · intro c127
          try replace hz124 := And.intro (wk_ hz124.1 c127) (wi_ hz124.2 c127)
          refine And.intro (True.intro) ?_
          exact ⟨_, rfl, by omega, (if_y (by omega) (cy (g0z124.elim (fun q => q.2) (fun q => absurd q.1 (by omega))) rfl)), (mR_fr (fFr_of hB0) (by decide +kernel))⟩
      · intro c128
        replace hz122 := wj_ hz122 c128
        refine And.intro (True.intro) ?_
        exact ⟨_, rfl, by omega, (if_n (by omega) rfl), (mR_fr (fFr_of hB0) (by decide +kernel))⟩
abbrev jc_Charter_nextShed_baa16_8 (I0 : fH) : Nat → fL → List fV → fH → Prop := fun m lv st I => ∃ (y2 : Int) (y3 : Int) (y4 : Int), lv = [(0, .inr (.inr (some 187))), (1, .inr (.inr (some 1))), (2, .inl y2), (3, .inl y3), (4, .inl y4)] ∧ st = [] ∧ ((((0 ≤ y2 ∧ y2 ≤ 23) ∨ y2 = (-1000000005)) ∧ ((-2147483648) ≤ y3 ∧ y3 ≤ 2147483647) ∧ (0 ≤ y4 ∧ y4 ≤ 24) ∧ (y4 ≤ I0 163 13)) ∧ (pkI (I0 210) y2 y3 y4) ∧ (I 210 = I0 210)) ∧ m = (1 + 1 * (24 - y4) : Int).toNat
set_option maxRecDepth 8000 in
theorem ct_Charter_nextShed_baa16 {I : fH}  (h0 : fB bsJ I)  : fC ρ base n F xTc vwCl xTys D dA la gJ (fbz bsJ znJ (fKc wz_3d14b) I) xm_152 [.inr (.inr (some 187)), .inr (.inr (some 1))] I (fun I' r => ∃ z, r = some (.inl z) ∧ ((0 ≤ z ∧ z ≤ 23) ∨ z = (-1000000005)) ∧ (pkS (I 210) (I' 210) (gt (cR 0 I) 7) z) ∧ (cR 0 I' = cR 0 I)) := by
  have hW : fzs wz_3d14b (fKc wz_3d14b) := fKc_ok _
  refine f_meth (rb := rbJ) (J := [(8, (jc_Charter_nextShed_baa16_8 I))]) 26 400 xG xin_152 x6_152 okJ (fB_self h0) ?_ ?_
  · refine List.forall_mem_cons.mpr ⟨?_, fun q h => absurd h List.not_mem_nil⟩
    · rintro m _ _ I1 hB1 ⟨y2, y3, y4, rfl, rfl, ⟨hb, hx0, hx1⟩, hm⟩
      have k1 := fBz_eq hB1 (a := 163) (j := 13) (by decide +kernel)
      have b2 := fBd fb_163_13 (fBz h0 hB1)
      have eR : cR 0 I1 = cR 0 I := cR_fr (d := 0) cZ0_ok (fFr_of hB1) (by decide +kernel)
      skip
      have w7 := (cL_f (d := 0) (a := 163) (j := 13) (r := 7) (p := 7) (I := I) (z := I 163 13) (by decide +kernel) (by decide) rfl rfl)
      refine And.intro ⟨rfl, by decide, by decide⟩ ?_
      refine And.intro ⟨rfl, by decide, by decide⟩ (fgetf fb_163_13 h0 hB1 ?_)
      intro z3 lz3 uz3 qz3
      have v14 := cL_f (d := 0) (a := 163) (j := 13) (r := 7) (p := 7) (by decide +kernel) (by decide) qz3 rfl
      rw [eR] at v14
      refine And.intro (And.intro (by first | exact fi_ hb.2.2.1.1 hb.2.2.1.2 rfl | omega) (by first | exact fi_ lz3 uz3 rfl | omega)) (And.intro ?_ ?_)
      · intro c4
        refine And.intro (by omega) (And.intro ?_ ?_)
        · intro c5
          refine And.intro (True.intro) ?_
          exact ⟨_, rfl, by omega, (pk_e0 hx0 (by omega) (by omega) rfl), (cR_fr (d := 0) cZ0_ok (fFr_of hB1) (by decide +kernel))⟩
        · intro c6
          refine And.intro ⟨rfl, by decide, by decide⟩ ?_
          refine fstore rS_210_210_0_23_1_0 (fzs_sub (by decide +kernel) hW) (by omega) (by first | exact ⟨by decide, by decide⟩ | omega) ?_
          intro IhB7 ehB7 hB7
          have t8 := fup_self ehB7
          have t9 : IhB7 163 13 = I1 163 13 := (congrFun (congrFun ehB7 163) 13).trans (fup_ne (by first | exact Or.inl (by decide) | omega))
          have k10 := fBz_eq hB7 (a := 163) (j := 13) (by decide +kernel)
          have r60 := cR_ot (d := 0) ehB7 (by decide)
          refine And.intro (True.intro) ?_
          exact ⟨_, rfl, by omega, (pk_e1 hx0 (by omega) (by omega) rfl hx1 (pn_st ehB7 rfl) (by omega) (by omega)), (cR_fr (d := 0) cZ0_ok (fFr_of hB7) (by decide +kernel))⟩
      · intro c11
        refine And.intro ⟨rfl, by decide, by decide⟩ ?_
        refine fload1 rL_210_210_0_23_1_0 h0 hB1 ⟨by decide, by decide⟩ (by first | exact ⟨hb.2.2.1.1, Int.le_trans (Int.le_sub_one_of_lt (Int.lt_of_lt_of_le c11 uz3)) (by decide)⟩ | omega) ?_
        intro z12 lz12 uz12 qz12
        refine And.intro (And.intro (by first | exact fi_ lz12 uz12 rfl | omega) (by first | exact fi_ hb.2.1.1 hb.2.1.2 rfl | omega)) (And.intro ?_ ?_)
        · intro c13
          exact fcutJ (I := I1) (j := (jc_Charter_nextShed_baa16_8 I)) (lv' := [(0, .inr (.inr (some 187))), (1, .inr (.inr (some 1))), (2, .inl _), (3, .inl _), (4, .inl _)]) (And.intro rfl (And.intro rfl (And.intro rfl (And.intro rfl (And.intro rfl True.intro))))) ⟨_, _, _, rfl, rfl, ⟨by omega, (pk_n hx0 (by omega) (qz12.trans (congrFun hx1 _)) (by omega) (by omega)), hx1⟩, rfl⟩ (by omega)
        · intro c14
          refine And.intro ⟨rfl, by decide, by decide⟩ ?_
          refine fload1 rL_210_210_0_23_1_0 h0 hB1 ⟨by decide, by decide⟩ (by first | exact ⟨hb.2.2.1.1, Int.le_trans (Int.le_sub_one_of_lt (Int.lt_of_lt_of_le c11 uz3)) (by decide)⟩ | omega) ?_
          intro z15 lz15 uz15 qz15
          exact fcutJ (I := I1) (j := (jc_Charter_nextShed_baa16_8 I)) (lv' := [(0, .inr (.inr (some 187))), (1, .inr (.inr (some 1))), (2, .inl _), (3, .inl _), (4, .inl _)]) (And.intro rfl (And.intro rfl (And.intro rfl (And.intro rfl (And.intro rfl True.intro))))) ⟨_, _, _, rfl, rfl, ⟨by omega, (pk_y hx0 (by omega) (qz12.trans (congrFun hx1 _)) (by omega) (by omega) (by omega) (by omega)), hx1⟩, rfl⟩ (by omega)
  · have hB0 := fB_self (zn := znJ) (K := fKc wz_3d14b) h0
    have b16 := fBd fb_163_13 (fBz h0 hB0)
    exact fcutJ (I := I) (j := (jc_Charter_nextShed_baa16_8 I)) (lv' := [(0, .inr (.inr (some 187))), (1, .inr (.inr (some 1))), (2, .inl _), (3, .inl _), (4, .inl _)]) (And.intro rfl (And.intro rfl (And.intro rfl (And.intro rfl (And.intro rfl True.intro))))) ⟨_, _, _, rfl, rfl, ⟨by omega, (pk_0 (by omega) (by omega) (by omega)), rfl⟩, rfl⟩ (by omega)
set_option maxRecDepth 8000 in
theorem ct_Charter_putWork_fb8e9 {I : fH} {x2 : Int} (h0 : fB bsJ I) (ha2 : (0 ≤ x2 ∧ x2 ≤ 23)) : fC ρ base n F xTc vwCl xTys D dA la gJ (fbz bsJ znJ (fKc wz_56c9a) I) xm_151 [.inr (.inr (some 187)), .inr (.inr (some 1)), .inl x2] I (fun I' r => r = none ∧ True ∧ (∀ i, nmK 2 i = true → I' 207 i = nmS (cR 0 I) x2 i) ∧ (cR 0 I' = cR 0 I)) := by
  have hW : fzs wz_56c9a (fKc wz_56c9a) := fKc_ok _
  refine f_meth (rb := rbJ) (J := []) 1 400 xG xin_151 x6_151 okJ (fB_self h0) ?_ ?_
  · exact fun q h => absurd h List.not_mem_nil
  · have hB0 := fB_self (zn := znJ) (K := fKc wz_56c9a) h0
    refine And.intro ⟨rfl, by decide, by decide⟩ ?_
    refine And.intro ⟨rfl, by decide, by decide⟩ ?_
    refine fload1 rL_164_164_0_23_1_0 h0 hB0 ⟨by decide, by decide⟩ (by first | exact ⟨ha2.1, ha2.2⟩ | omega) ?_
    intro z1 lz1 uz1 qz1
    have v10 := cL_a (d := 0) (a := 164) (n := 24) (b := 530) (m := 14) (by decide +kernel) (by decide) qz1 (by omega) rfl
    refine And.intro (And.intro (by first | exact fi_ lz1 uz1 rfl | omega) (by first | exact ⟨by decide, by decide⟩ | omega)) (And.intro ?_ ?_)
    · intro c2
      refine And.intro ⟨rfl, by decide, by decide⟩ ?_
      refine fload1 rL_164_164_0_23_1_0 h0 hB0 ⟨by decide, by decide⟩ (by first | exact ⟨ha2.1, ha2.2⟩ | omega) ?_
      intro z3 lz3 uz3 qz3
      have v30 := cL_a (d := 0) (a := 164) (n := 24) (b := 530) (m := 14) (by decide +kernel) (by decide) qz3 (by omega) rfl
      refine Exists.intro xm_30 (And.intro mi_30 (And.intro ⟨rfl, rfl, rfl, rfl⟩ (And.intro rfl ?_)))
      refine fcall _ h0 (fzs_sub (by decide +kernel) hW) hB0 (ct_Charter_put_c2709 (fBz h0 hB0) (by first | exact ⟨by decide, by decide⟩ | omega) (by first | exact ⟨lz3, Int.le_trans uz3 (by decide)⟩ | omega)) ?_
      rintro IhB5 _ hB5 fhB5 ⟨rfl, hz4, g0z4⟩
      have r31 := cR_fr (d := 0) cZ0_ok fhB5 (by decide +kernel)
      refine And.intro ⟨rfl, by decide, by decide⟩ ?_
      refine fload1 rL_166_166_0_23_1_0 h0 hB5 ⟨by decide, by decide⟩ (by first | exact ⟨ha2.1, ha2.2⟩ | omega) ?_
      intro z6 lz6 uz6 qz6
      have v42 := cL_a (d := 0) (a := 166) (n := 24) (b := 532) (m := 14) (by decide +kernel) (by decide) qz6 (by omega) rfl
      rw [r31] at v42
      refine Exists.intro xm_30 (And.intro mi_30 (And.intro ⟨rfl, rfl, rfl, rfl⟩ (And.intro rfl ?_)))
      refine fcall _ h0 (fzs_sub (by decide +kernel) hW) hB5 (ct_Charter_put_c2709 (fBz h0 hB5) (by first | exact ⟨by decide, by decide⟩ | omega) (by first | exact ⟨lz6, Int.le_trans uz6 (by decide)⟩ | omega)) ?_
      rintro IhB8 _ hB8 fhB8 ⟨rfl, hz7, g0z7⟩
      have r43 := cR_fr (d := 0) cZ0_ok fhB8 (by decide +kernel)
      refine And.intro (by omega) (And.intro ?_ ?_)
      · intro c9
        refine Exists.intro xm_30 (And.intro mi_30 (And.intro ⟨rfl, rfl, rfl, rfl⟩ (And.intro rfl ?_)))
        refine fcall _ h0 (fzs_sub (by decide +kernel) hW) hB8 (ct_Charter_put_c2709 (fBz h0 hB8) (by first | exact ⟨by decide, by decide⟩ | omega) (by omega)) ?_
        rintro IhB11 _ hB11 fhB11 ⟨rfl, hz10, g0z10⟩
        have r64 := cR_fr (d := 0) cZ0_ok fhB11 (by decide +kernel)
        refine And.intro (by omega) (And.intro ?_ ?_)
        · intro c12
          refine Exists.intro xm_30 (And.intro mi_30 (And.intro ⟨rfl, rfl, rfl, rfl⟩ (And.intro rfl ?_)))
          refine fcall _ h0 (fzs_sub (by decide +kernel) hW) hB11 (ct_Charter_put_c2709 (fBz h0 hB11) (by first | exact ⟨by decide, by decide⟩ | omega) (by omega)) ?_
          rintro IhB14 _ hB14 fhB14 ⟨rfl, hz13, g0z13⟩
          have r85 := cR_fr (d := 0) cZ0_ok fhB14 (by decide +kernel)
          refine And.intro ⟨rfl, by decide, by decide⟩ ?_
          refine fload1 rL_168_168_0_23_1_0 h0 hB14 ⟨by decide, by decide⟩ (by first | exact ⟨ha2.1, ha2.2⟩ | omega) ?_
          intro z15 lz15 uz15 qz15
          have v96 := cL_a (d := 0) (a := 168) (n := 24) (b := 534) (m := 14) (by decide +kernel) (by decide) qz15 (by omega) rfl
          rw [r85, r64, r43, r31] at v96
          refine Exists.intro xm_30 (And.intro mi_30 (And.intro ⟨rfl, rfl, rfl, rfl⟩ (And.intro rfl ?_)))
          refine fcall _ h0 (fzs_sub (by decide +kernel) hW) hB14 (ct_Charter_put_c2709 (fBz h0 hB14) (by first | exact ⟨by decide, by decide⟩ | omega) (by first | exact ⟨lz15, Int.le_trans uz15 (by decide)⟩ | omega)) ?_
          rintro IhB17 _ hB17 fhB17 ⟨rfl, hz16, g0z16⟩
          have r97 := cR_fr (d := 0) cZ0_ok fhB17 (by decide +kernel)
          refine And.intro ⟨rfl, by decide, by decide⟩ ?_
          refine And.intro ⟨rfl, by decide, by decide⟩ ?_
          refine fload1 rL_165_165_0_23_1_0 h0 hB17 ⟨by decide, by decide⟩ (by first | exact ⟨ha2.1, ha2.2⟩ | omega) ?_
          intro z18 lz18 uz18 qz18
          have v112 := cL_a (d := 0) (a := 165) (n := 24) (b := 531) (m := 14) (by decide +kernel) (by decide) qz18 (by omega) rfl
          rw [r97, r85, r64, r43, r31] at v112
          refine Exists.intro xm_20 (And.intro mi_20 (And.intro ⟨rfl, rfl, rfl, rfl⟩ (And.intro rfl ?_)))
          refine fcallp hB17 (ct_People_livingIn_ff6d0 (fBz h0 hB17) (by first | exact ⟨lz18, uz18⟩ | omega)) ?_
          rintro _ ⟨z19, rfl, hz19, g0z19⟩
          try rw [r97, r85, r64, r43, r31] at g0z19
          refine Exists.intro xm_30 (And.intro mi_30 (And.intro ⟨rfl, rfl, rfl, rfl⟩ (And.intro rfl ?_)))
          refine fcall _ h0 (fzs_sub (by decide +kernel) hW) hB17 (ct_Charter_put_c2709 (fBz h0 hB17) (by first | exact ⟨by decide, by decide⟩ | omega) (by first | exact ⟨hz19.1, Int.le_trans hz19.2 (by decide)⟩ | omega)) ?_
          rintro IhB21 _ hB21 fhB21 ⟨rfl, hz20, g0z20⟩
          have r116 := cR_fr (d := 0) cZ0_ok fhB21 (by decide +kernel)
          refine Exists.intro xm_31 (And.intro mi_31 (And.intro ⟨rfl, rfl, rfl, rfl⟩ (And.intro rfl ?_)))
          refine fcallp hB21 (ct_City_level_61deb (fBz h0 hB21)) ?_
          rintro _ ⟨z22, rfl, hz22, g0z22⟩
          try rw [r116, r97, r85, r64, r43, r31] at g0z22
          refine Exists.intro xm_30 (And.intro mi_30 (And.intro ⟨rfl, rfl, rfl, rfl⟩ (And.intro rfl ?_)))
          refine fcall _ h0 (fzs_sub (by decide +kernel) hW) hB21 (ct_Charter_put_c2709 (fBz h0 hB21) (by first | exact ⟨by decide, by decide⟩ | omega) (by first | exact ⟨hz22.1, Int.le_trans hz22.2 (by decide)⟩ | omega)) ?_
          rintro IhB24 _ hB24 fhB24 ⟨rfl, hz23, g0z23⟩
          have r126 := cR_fr (d := 0) cZ0_ok fhB24 (by decide +kernel)
          exact ⟨rfl, True.intro, (nmS_c g0z4 g0z7 g0z10 g0z13 g0z16 g0z20 g0z23 (by decide) (by decide) (by decide) (by decide) (by decide) (by decide) (by decide) (gt_at v30 (by omega)) (gt_at v42 (by omega)) (skin_v (p := 536 + 14 * x2) (x := 0) (gt_at v10 (by omega)) (Or.inr ⟨by omega, rfl⟩)) (skin_v (p := 535 + 14 * x2) (x := 0) (gt_at v10 (by omega)) (Or.inr ⟨by omega, rfl⟩)) (gt_at v96 (by omega)) (g0z19.trans (by rw [gt_at v112 (show _ = 531 + 14 * x2 by omega)])) g0z22), (cR_fr (d := 0) cZ0_ok (fFr_of hB24) (by decide +kernel))⟩
        · intro c25
          refine And.intro ⟨rfl, by decide, by decide⟩ ?_
          refine fload1 rL_171_171_0_23_1_0 h0 hB11 ⟨by decide, by decide⟩ (by first | exact ⟨ha2.1, ha2.2⟩ | omega) ?_
          intro z26 lz26 uz26 qz26
          have v80 := cL_a (d := 0) (a := 171) (n := 24) (b := 535) (m := 14) (by decide +kernel) (by decide) qz26 (by omega) rfl
          rw [r64, r43, r31] at v80
          refine Exists.intro xm_30 (And.intro mi_30 (And.intro ⟨rfl, rfl, rfl, rfl⟩ (And.intro rfl ?_)))
          refine fcall _ h0 (fzs_sub (by decide +kernel) hW) hB11 (ct_Charter_put_c2709 (fBz h0 hB11) (by first | exact ⟨by decide, by decide⟩ | omega) (by first | exact ⟨lz26, Int.le_trans uz26 (by decide)⟩ | omega)) ?_
          rintro IhB28 _ hB28 fhB28 ⟨rfl, hz27, g0z27⟩
          have r85 := cR_fr (d := 0) cZ0_ok fhB28 (by decide +kernel)
          refine And.intro ⟨rfl, by decide, by decide⟩ ?_
          refine fload1 rL_168_168_0_23_1_0 h0 hB28 ⟨by decide, by decide⟩ (by first | exact ⟨ha2.1, ha2.2⟩ | omega) ?_
          intro z29 lz29 uz29 qz29
          have v96 := cL_a (d := 0) (a := 168) (n := 24) (b := 534) (m := 14) (by decide +kernel) (by decide) qz29 (by omega) rfl
          rw [r85, r64, r43, r31] at v96
          refine Exists.intro xm_30 (And.intro mi_30 (And.intro ⟨rfl, rfl, rfl, rfl⟩ (And.intro rfl ?_)))
          refine fcall _ h0 (fzs_sub (by decide +kernel) hW) hB28 (ct_Charter_put_c2709 (fBz h0 hB28) (by first | exact ⟨by decide, by decide⟩ | omega) (by first | exact ⟨lz29, Int.le_trans uz29 (by decide)⟩ | omega)) ?_
          rintro IhB31 _ hB31 fhB31 ⟨rfl, hz30, g0z30⟩
          have r97 := cR_fr (d := 0) cZ0_ok fhB31 (by decide +kernel)
          refine And.intro ⟨rfl, by decide, by decide⟩ ?_
          refine And.intro ⟨rfl, by decide, by decide⟩ ?_
          refine fload1 rL_165_165_0_23_1_0 h0 hB31 ⟨by decide, by decide⟩ (by first | exact ⟨ha2.1, ha2.2⟩ | omega) ?_
          intro z32 lz32 uz32 qz32
          have v112 := cL_a (d := 0) (a := 165) (n := 24) (b := 531) (m := 14) (by decide +kernel) (by decide) qz32 (by omega) rfl
          rw [r97, r85, r64, r43, r31] at v112
          refine Exists.intro xm_20 (And.intro mi_20 (And.intro ⟨rfl, rfl, rfl, rfl⟩ (And.intro rfl ?_)))
          refine fcallp hB31 (ct_People_livingIn_ff6d0 (fBz h0 hB31) (by first | exact ⟨lz32, uz32⟩ | omega)) ?_
          rintro _ ⟨z33, rfl, hz33, g0z33⟩
          try rw [r97, r85, r64, r43, r31] at g0z33
          refine Exists.intro xm_30 (And.intro mi_30 (And.intro ⟨rfl, rfl, rfl, rfl⟩ (And.intro rfl ?_)))
          refine fcall _ h0 (fzs_sub (by decide +kernel) hW) hB31 (ct_Charter_put_c2709 (fBz h0 hB31) (by first | exact ⟨by decide, by decide⟩ | omega) (by first | exact ⟨hz33.1, Int.le_trans hz33.2 (by decide)⟩ | omega)) ?_
          rintro IhB35 _ hB35 fhB35 ⟨rfl, hz34, g0z34⟩
          have r116 := cR_fr (d := 0) cZ0_ok fhB35 (by decide +kernel)
          refine Exists.intro xm_31 (And.intro mi_31 (And.intro ⟨rfl, rfl, rfl, rfl⟩ (And.intro rfl ?_)))
          refine fcallp hB35 (ct_City_level_61deb (fBz h0 hB35)) ?_
          rintro _ ⟨z36, rfl, hz36, g0z36⟩
          try rw [r116, r97, r85, r64, r43, r31] at g0z36
          refine Exists.intro xm_30 (And.intro mi_30 (And.intro ⟨rfl, rfl, rfl, rfl⟩ (And.intro rfl ?_)))
          refine fcall _ h0 (fzs_sub (by decide +kernel) hW) hB35 (ct_Charter_put_c2709 (fBz h0 hB35) (by first | exact ⟨by decide, by decide⟩ | omega) (by first | exact ⟨hz36.1, Int.le_trans hz36.2 (by decide)⟩ | omega)) ?_
          rintro IhB38 _ hB38 fhB38 ⟨rfl, hz37, g0z37⟩
          have r126 := cR_fr (d := 0) cZ0_ok fhB38 (by decide +kernel)
          exact ⟨rfl, True.intro, (by exfalso; omega), (cR_fr (d := 0) cZ0_ok (fFr_of hB38) (by decide +kernel))⟩
      · intro c39
        refine And.intro ⟨rfl, by decide, by decide⟩ ?_
        refine fload1 rL_172_172_0_23_1_0 h0 hB8 ⟨by decide, by decide⟩ (by first | exact ⟨ha2.1, ha2.2⟩ | omega) ?_
        intro z40 lz40 uz40 qz40
        have v59 := cL_a (d := 0) (a := 172) (n := 24) (b := 536) (m := 14) (by decide +kernel) (by decide) qz40 (by omega) rfl
        rw [r43, r31] at v59
        refine Exists.intro xm_30 (And.intro mi_30 (And.intro ⟨rfl, rfl, rfl, rfl⟩ (And.intro rfl ?_)))
        refine fcall _ h0 (fzs_sub (by decide +kernel) hW) hB8 (ct_Charter_put_c2709 (fBz h0 hB8) (by first | exact ⟨by decide, by decide⟩ | omega) (by first | exact ⟨lz40, Int.le_trans uz40 (by decide)⟩ | omega)) ?_
        rintro IhB42 _ hB42 fhB42 ⟨rfl, hz41, g0z41⟩
        have r64 := cR_fr (d := 0) cZ0_ok fhB42 (by decide +kernel)
        refine And.intro (by omega) (And.intro ?_ ?_)
        · intro c43
          refine Exists.intro xm_30 (And.intro mi_30 (And.intro ⟨rfl, rfl, rfl, rfl⟩ (And.intro rfl ?_)))
          refine fcall _ h0 (fzs_sub (by decide +kernel) hW) hB42 (ct_Charter_put_c2709 (fBz h0 hB42) (by first | exact ⟨by decide, by decide⟩ | omega) (by omega)) ?_
          rintro IhB45 _ hB45 fhB45 ⟨rfl, hz44, g0z44⟩
          have r85 := cR_fr (d := 0) cZ0_ok fhB45 (by decide +kernel)
          refine And.intro ⟨rfl, by decide, by decide⟩ ?_
          refine fload1 rL_168_168_0_23_1_0 h0 hB45 ⟨by decide, by decide⟩ (by first | exact ⟨ha2.1, ha2.2⟩ | omega) ?_
          intro z46 lz46 uz46 qz46
          have v96 := cL_a (d := 0) (a := 168) (n := 24) (b := 534) (m := 14) (by decide +kernel) (by decide) qz46 (by omega) rfl
          rw [r85, r64, r43, r31] at v96
          refine Exists.intro xm_30 (And.intro mi_30 (And.intro ⟨rfl, rfl, rfl, rfl⟩ (And.intro rfl ?_)))
          refine fcall _ h0 (fzs_sub (by decide +kernel) hW) hB45 (ct_Charter_put_c2709 (fBz h0 hB45) (by first | exact ⟨by decide, by decide⟩ | omega) (by first | exact ⟨lz46, Int.le_trans uz46 (by decide)⟩ | omega)) ?_
          rintro IhB48 _ hB48 fhB48 ⟨rfl, hz47, g0z47⟩
          have r97 := cR_fr (d := 0) cZ0_ok fhB48 (by decide +kernel)
          refine And.intro ⟨rfl, by decide, by decide⟩ ?_
          refine And.intro ⟨rfl, by decide, by decide⟩ ?_
          refine fload1 rL_165_165_0_23_1_0 h0 hB48 ⟨by decide, by decide⟩ (by first | exact ⟨ha2.1, ha2.2⟩ | omega) ?_
          intro z49 lz49 uz49 qz49
          have v112 := cL_a (d := 0) (a := 165) (n := 24) (b := 531) (m := 14) (by decide +kernel) (by decide) qz49 (by omega) rfl
          rw [r97, r85, r64, r43, r31] at v112
          refine Exists.intro xm_20 (And.intro mi_20 (And.intro ⟨rfl, rfl, rfl, rfl⟩ (And.intro rfl ?_)))
          refine fcallp hB48 (ct_People_livingIn_ff6d0 (fBz h0 hB48) (by first | exact ⟨lz49, uz49⟩ | omega)) ?_
          rintro _ ⟨z50, rfl, hz50, g0z50⟩
          try rw [r97, r85, r64, r43, r31] at g0z50
          refine Exists.intro xm_30 (And.intro mi_30 (And.intro ⟨rfl, rfl, rfl, rfl⟩ (And.intro rfl ?_)))
          refine fcall _ h0 (fzs_sub (by decide +kernel) hW) hB48 (ct_Charter_put_c2709 (fBz h0 hB48) (by first | exact ⟨by decide, by decide⟩ | omega) (by first | exact ⟨hz50.1, Int.le_trans hz50.2 (by decide)⟩ | omega)) ?_
          rintro IhB52 _ hB52 fhB52 ⟨rfl, hz51, g0z51⟩
          have r116 := cR_fr (d := 0) cZ0_ok fhB52 (by decide +kernel)
          refine Exists.intro xm_31 (And.intro mi_31 (And.intro ⟨rfl, rfl, rfl, rfl⟩ (And.intro rfl ?_)))
          refine fcallp hB52 (ct_City_level_61deb (fBz h0 hB52)) ?_
          rintro _ ⟨z53, rfl, hz53, g0z53⟩
          try rw [r116, r97, r85, r64, r43, r31] at g0z53
          refine Exists.intro xm_30 (And.intro mi_30 (And.intro ⟨rfl, rfl, rfl, rfl⟩ (And.intro rfl ?_)))
          refine fcall _ h0 (fzs_sub (by decide +kernel) hW) hB52 (ct_Charter_put_c2709 (fBz h0 hB52) (by first | exact ⟨by decide, by decide⟩ | omega) (by first | exact ⟨hz53.1, Int.le_trans hz53.2 (by decide)⟩ | omega)) ?_
          rintro IhB55 _ hB55 fhB55 ⟨rfl, hz54, g0z54⟩
          have r126 := cR_fr (d := 0) cZ0_ok fhB55 (by decide +kernel)
          exact ⟨rfl, True.intro, (by exfalso; omega), (cR_fr (d := 0) cZ0_ok (fFr_of hB55) (by decide +kernel))⟩
        · intro c56
          refine And.intro ⟨rfl, by decide, by decide⟩ ?_
          refine fload1 rL_171_171_0_23_1_0 h0 hB42 ⟨by decide, by decide⟩ (by first | exact ⟨ha2.1, ha2.2⟩ | omega) ?_
          intro z57 lz57 uz57 qz57
          have v80 := cL_a (d := 0) (a := 171) (n := 24) (b := 535) (m := 14) (by decide +kernel) (by decide) qz57 (by omega) rfl
          rw [r64, r43, r31] at v80
          refine Exists.intro xm_30 (And.intro mi_30 (And.intro ⟨rfl, rfl, rfl, rfl⟩ (And.intro rfl ?_)))
          refine fcall _ h0 (fzs_sub (by decide +kernel) hW) hB42 (ct_Charter_put_c2709 (fBz h0 hB42) (by first | exact ⟨by decide, by decide⟩ | omega) (by first | exact ⟨lz57, Int.le_trans uz57 (by decide)⟩ | omega)) ?_
          rintro IhB59 _ hB59 fhB59 ⟨rfl, hz58, g0z58⟩
          have r85 := cR_fr (d := 0) cZ0_ok fhB59 (by decide +kernel)
          refine And.intro ⟨rfl, by decide, by decide⟩ ?_
          refine fload1 rL_168_168_0_23_1_0 h0 hB59 ⟨by decide, by decide⟩ (by first | exact ⟨ha2.1, ha2.2⟩ | omega) ?_
          intro z60 lz60 uz60 qz60
          have v96 := cL_a (d := 0) (a := 168) (n := 24) (b := 534) (m := 14) (by decide +kernel) (by decide) qz60 (by omega) rfl
          rw [r85, r64, r43, r31] at v96
          refine Exists.intro xm_30 (And.intro mi_30 (And.intro ⟨rfl, rfl, rfl, rfl⟩ (And.intro rfl ?_)))
          refine fcall _ h0 (fzs_sub (by decide +kernel) hW) hB59 (ct_Charter_put_c2709 (fBz h0 hB59) (by first | exact ⟨by decide, by decide⟩ | omega) (by first | exact ⟨lz60, Int.le_trans uz60 (by decide)⟩ | omega)) ?_
          rintro IhB62 _ hB62 fhB62 ⟨rfl, hz61, g0z61⟩
          have r97 := cR_fr (d := 0) cZ0_ok fhB62 (by decide +kernel)
          refine And.intro ⟨rfl, by decide, by decide⟩ ?_
          refine And.intro ⟨rfl, by decide, by decide⟩ ?_
          refine fload1 rL_165_165_0_23_1_0 h0 hB62 ⟨by decide, by decide⟩ (by first | exact ⟨ha2.1, ha2.2⟩ | omega) ?_
          intro z63 lz63 uz63 qz63
          have v112 := cL_a (d := 0) (a := 165) (n := 24) (b := 531) (m := 14) (by decide +kernel) (by decide) qz63 (by omega) rfl
          rw [r97, r85, r64, r43, r31] at v112
          refine Exists.intro xm_20 (And.intro mi_20 (And.intro ⟨rfl, rfl, rfl, rfl⟩ (And.intro rfl ?_)))
          refine fcallp hB62 (ct_People_livingIn_ff6d0 (fBz h0 hB62) (by first | exact ⟨lz63, uz63⟩ | omega)) ?_
          rintro _ ⟨z64, rfl, hz64, g0z64⟩
          try rw [r97, r85, r64, r43, r31] at g0z64
          refine Exists.intro xm_30 (And.intro mi_30 (And.intro ⟨rfl, rfl, rfl, rfl⟩ (And.intro rfl ?_)))
          refine fcall _ h0 (fzs_sub (by decide +kernel) hW) hB62 (ct_Charter_put_c2709 (fBz h0 hB62) (by first | exact ⟨by decide, by decide⟩ | omega) (by first | exact ⟨hz64.1, Int.le_trans hz64.2 (by decide)⟩ | omega)) ?_
          rintro IhB66 _ hB66 fhB66 ⟨rfl, hz65, g0z65⟩
          have r116 := cR_fr (d := 0) cZ0_ok fhB66 (by decide +kernel)
          refine Exists.intro xm_31 (And.intro mi_31 (And.intro ⟨rfl, rfl, rfl, rfl⟩ (And.intro rfl ?_)))
          refine fcallp hB66 (ct_City_level_61deb (fBz h0 hB66)) ?_
          rintro _ ⟨z67, rfl, hz67, g0z67⟩
          try rw [r116, r97, r85, r64, r43, r31] at g0z67
          refine Exists.intro xm_30 (And.intro mi_30 (And.intro ⟨rfl, rfl, rfl, rfl⟩ (And.intro rfl ?_)))
          refine fcall _ h0 (fzs_sub (by decide +kernel) hW) hB66 (ct_Charter_put_c2709 (fBz h0 hB66) (by first | exact ⟨by decide, by decide⟩ | omega) (by first | exact ⟨hz67.1, Int.le_trans hz67.2 (by decide)⟩ | omega)) ?_
          rintro IhB69 _ hB69 fhB69 ⟨rfl, hz68, g0z68⟩
          have r126 := cR_fr (d := 0) cZ0_ok fhB69 (by decide +kernel)
          exact ⟨rfl, True.intro, (by exfalso; omega), (cR_fr (d := 0) cZ0_ok (fFr_of hB69) (by decide +kernel))⟩
    · intro c70
      refine And.intro ⟨rfl, by decide, by decide⟩ ?_
      refine fload1 rL_164_164_0_23_1_0 h0 hB0 ⟨by decide, by decide⟩ (by first | exact ⟨ha2.1, ha2.2⟩ | omega) ?_
      intro z71 lz71 uz71 qz71
      have v30 := cL_a (d := 0) (a := 164) (n := 24) (b := 530) (m := 14) (by decide +kernel) (by decide) qz71 (by omega) rfl
      refine Exists.intro xm_30 (And.intro mi_30 (And.intro ⟨rfl, rfl, rfl, rfl⟩ (And.intro rfl ?_)))
      refine fcall _ h0 (fzs_sub (by decide +kernel) hW) hB0 (ct_Charter_put_c2709 (fBz h0 hB0) (by first | exact ⟨by decide, by decide⟩ | omega) (by first | exact ⟨lz71, Int.le_trans uz71 (by decide)⟩ | omega)) ?_
      rintro IhB73 _ hB73 fhB73 ⟨rfl, hz72, g0z72⟩
      have r31 := cR_fr (d := 0) cZ0_ok fhB73 (by decide +kernel)
      refine And.intro ⟨rfl, by decide, by decide⟩ ?_
      refine fload1 rL_166_166_0_23_1_0 h0 hB73 ⟨by decide, by decide⟩ (by first | exact ⟨ha2.1, ha2.2⟩ | omega) ?_
      intro z74 lz74 uz74 qz74
      have v42 := cL_a (d := 0) (a := 166) (n := 24) (b := 532) (m := 14) (by decide +kernel) (by decide) qz74 (by omega) rfl
      rw [r31] at v42
      refine Exists.intro xm_30 (And.intro mi_30 (And.intro ⟨rfl, rfl, rfl, rfl⟩ (And.intro rfl ?_)))
      refine fcall _ h0 (fzs_sub (by decide +kernel) hW) hB73 (ct_Charter_put_c2709 (fBz h0 hB73) (by first | exact ⟨by decide, by decide⟩ | omega) (by first | exact ⟨lz74, Int.le_trans uz74 (by decide)⟩ | omega)) ?_
      rintro IhB76 _ hB76 fhB76 ⟨rfl, hz75, g0z75⟩
      have r43 := cR_fr (d := 0) cZ0_ok fhB76 (by decide +kernel)
      refine And.intro (by first | exact ⟨by decide, by decide⟩ | omega) (And.intro ?_ ?_)
      · intro c77
        refine Exists.intro xm_30 (And.intro mi_30 (And.intro ⟨rfl, rfl, rfl, rfl⟩ (And.intro rfl ?_)))
        refine fcall _ h0 (fzs_sub (by decide +kernel) hW) hB76 (ct_Charter_put_c2709 (fBz h0 hB76) (by first | exact ⟨by decide, by decide⟩ | omega) (by omega)) ?_
        rintro IhB79 _ hB79 fhB79 ⟨rfl, hz78, g0z78⟩
        have r64 := cR_fr (d := 0) cZ0_ok fhB79 (by decide +kernel)
        refine And.intro (by first | exact ⟨by decide, by decide⟩ | omega) (And.intro ?_ ?_)
        · intro c80
          refine Exists.intro xm_30 (And.intro mi_30 (And.intro ⟨rfl, rfl, rfl, rfl⟩ (And.intro rfl ?_)))
          refine fcall _ h0 (fzs_sub (by decide +kernel) hW) hB79 (ct_Charter_put_c2709 (fBz h0 hB79) (by first | exact ⟨by decide, by decide⟩ | omega) (by omega)) ?_
          rintro IhB82 _ hB82 fhB82 ⟨rfl, hz81, g0z81⟩
          have r85 := cR_fr (d := 0) cZ0_ok fhB82 (by decide +kernel)
          refine And.intro ⟨rfl, by decide, by decide⟩ ?_
          refine fload1 rL_168_168_0_23_1_0 h0 hB82 ⟨by decide, by decide⟩ (by first | exact ⟨ha2.1, ha2.2⟩ | omega) ?_
          intro z83 lz83 uz83 qz83
          have v96 := cL_a (d := 0) (a := 168) (n := 24) (b := 534) (m := 14) (by decide +kernel) (by decide) qz83 (by omega) rfl
          rw [r85, r64, r43, r31] at v96
          refine Exists.intro xm_30 (And.intro mi_30 (And.intro ⟨rfl, rfl, rfl, rfl⟩ (And.intro rfl ?_)))
          refine fcall _ h0 (fzs_sub (by decide +kernel) hW) hB82 (ct_Charter_put_c2709 (fBz h0 hB82) (by first | exact ⟨by decide, by decide⟩ | omega) (by first | exact ⟨lz83, Int.le_trans uz83 (by decide)⟩ | omega)) ?_
          rintro IhB85 _ hB85 fhB85 ⟨rfl, hz84, g0z84⟩
          have r97 := cR_fr (d := 0) cZ0_ok fhB85 (by decide +kernel)
          refine And.intro ⟨rfl, by decide, by decide⟩ ?_
          refine And.intro ⟨rfl, by decide, by decide⟩ ?_
          refine fload1 rL_165_165_0_23_1_0 h0 hB85 ⟨by decide, by decide⟩ (by first | exact ⟨ha2.1, ha2.2⟩ | omega) ?_
          intro z86 lz86 uz86 qz86
          have v112 := cL_a (d := 0) (a := 165) (n := 24) (b := 531) (m := 14) (by decide +kernel) (by decide) qz86 (by omega) rfl
          rw [r97, r85, r64, r43, r31] at v112
          refine Exists.intro xm_20 (And.intro mi_20 (And.intro ⟨rfl, rfl, rfl, rfl⟩ (And.intro rfl ?_)))
          refine fcallp hB85 (ct_People_livingIn_ff6d0 (fBz h0 hB85) (by first | exact ⟨lz86, uz86⟩ | omega)) ?_
          rintro _ ⟨z87, rfl, hz87, g0z87⟩
          try rw [r97, r85, r64, r43, r31] at g0z87
          refine Exists.intro xm_30 (And.intro mi_30 (And.intro ⟨rfl, rfl, rfl, rfl⟩ (And.intro rfl ?_)))
          refine fcall _ h0 (fzs_sub (by decide +kernel) hW) hB85 (ct_Charter_put_c2709 (fBz h0 hB85) (by first | exact ⟨by decide, by decide⟩ | omega) (by first | exact ⟨hz87.1, Int.le_trans hz87.2 (by decide)⟩ | omega)) ?_
          rintro IhB89 _ hB89 fhB89 ⟨rfl, hz88, g0z88⟩
          have r116 := cR_fr (d := 0) cZ0_ok fhB89 (by decide +kernel)
          refine Exists.intro xm_31 (And.intro mi_31 (And.intro ⟨rfl, rfl, rfl, rfl⟩ (And.intro rfl ?_)))
          refine fcallp hB89 (ct_City_level_61deb (fBz h0 hB89)) ?_
          rintro _ ⟨z90, rfl, hz90, g0z90⟩
          try rw [r116, r97, r85, r64, r43, r31] at g0z90
          refine Exists.intro xm_30 (And.intro mi_30 (And.intro ⟨rfl, rfl, rfl, rfl⟩ (And.intro rfl ?_)))
          refine fcall _ h0 (fzs_sub (by decide +kernel) hW) hB89 (ct_Charter_put_c2709 (fBz h0 hB89) (by first | exact ⟨by decide, by decide⟩ | omega) (by first | exact ⟨hz90.1, Int.le_trans hz90.2 (by decide)⟩ | omega)) ?_
          rintro IhB92 _ hB92 fhB92 ⟨rfl, hz91, g0z91⟩
          have r126 := cR_fr (d := 0) cZ0_ok fhB92 (by decide +kernel)
          exact ⟨rfl, True.intro, (by exfalso; omega), (cR_fr (d := 0) cZ0_ok (fFr_of hB92) (by decide +kernel))⟩
        · intro c93
          refine And.intro ⟨rfl, by decide, by decide⟩ ?_
          refine fload1 rL_171_171_0_23_1_0 h0 hB79 ⟨by decide, by decide⟩ (by first | exact ⟨ha2.1, ha2.2⟩ | omega) ?_
          intro z94 lz94 uz94 qz94
          have v80 := cL_a (d := 0) (a := 171) (n := 24) (b := 535) (m := 14) (by decide +kernel) (by decide) qz94 (by omega) rfl
          rw [r64, r43, r31] at v80
          refine Exists.intro xm_30 (And.intro mi_30 (And.intro ⟨rfl, rfl, rfl, rfl⟩ (And.intro rfl ?_)))
          refine fcall _ h0 (fzs_sub (by decide +kernel) hW) hB79 (ct_Charter_put_c2709 (fBz h0 hB79) (by first | exact ⟨by decide, by decide⟩ | omega) (by first | exact ⟨lz94, Int.le_trans uz94 (by decide)⟩ | omega)) ?_
          rintro IhB96 _ hB96 fhB96 ⟨rfl, hz95, g0z95⟩
          have r85 := cR_fr (d := 0) cZ0_ok fhB96 (by decide +kernel)
          refine And.intro ⟨rfl, by decide, by decide⟩ ?_
          refine fload1 rL_168_168_0_23_1_0 h0 hB96 ⟨by decide, by decide⟩ (by first | exact ⟨ha2.1, ha2.2⟩ | omega) ?_
          intro z97 lz97 uz97 qz97
          have v96 := cL_a (d := 0) (a := 168) (n := 24) (b := 534) (m := 14) (by decide +kernel) (by decide) qz97 (by omega) rfl
          rw [r85, r64, r43, r31] at v96
          refine Exists.intro xm_30 (And.intro mi_30 (And.intro ⟨rfl, rfl, rfl, rfl⟩ (And.intro rfl ?_)))
          refine fcall _ h0 (fzs_sub (by decide +kernel) hW) hB96 (ct_Charter_put_c2709 (fBz h0 hB96) (by first | exact ⟨by decide, by decide⟩ | omega) (by first | exact ⟨lz97, Int.le_trans uz97 (by decide)⟩ | omega)) ?_
          rintro IhB99 _ hB99 fhB99 ⟨rfl, hz98, g0z98⟩
          have r97 := cR_fr (d := 0) cZ0_ok fhB99 (by decide +kernel)
          refine And.intro ⟨rfl, by decide, by decide⟩ ?_
          refine And.intro ⟨rfl, by decide, by decide⟩ ?_
          refine fload1 rL_165_165_0_23_1_0 h0 hB99 ⟨by decide, by decide⟩ (by first | exact ⟨ha2.1, ha2.2⟩ | omega) ?_
          intro z100 lz100 uz100 qz100
          have v112 := cL_a (d := 0) (a := 165) (n := 24) (b := 531) (m := 14) (by decide +kernel) (by decide) qz100 (by omega) rfl
          rw [r97, r85, r64, r43, r31] at v112
          refine Exists.intro xm_20 (And.intro mi_20 (And.intro ⟨rfl, rfl, rfl, rfl⟩ (And.intro rfl ?_)))
          refine fcallp hB99 (ct_People_livingIn_ff6d0 (fBz h0 hB99) (by first | exact ⟨lz100, uz100⟩ | omega)) ?_
          rintro _ ⟨z101, rfl, hz101, g0z101⟩
          try rw [r97, r85, r64, r43, r31] at g0z101
          refine Exists.intro xm_30 (And.intro mi_30 (And.intro ⟨rfl, rfl, rfl, rfl⟩ (And.intro rfl ?_)))
          refine fcall _ h0 (fzs_sub (by decide +kernel) hW) hB99 (ct_Charter_put_c2709 (fBz h0 hB99) (by first | exact ⟨by decide, by decide⟩ | omega) (by first | exact ⟨hz101.1, Int.le_trans hz101.2 (by decide)⟩ | omega)) ?_
          rintro IhB103 _ hB103 fhB103 ⟨rfl, hz102, g0z102⟩
          have r116 := cR_fr (d := 0) cZ0_ok fhB103 (by decide +kernel)
          refine Exists.intro xm_31 (And.intro mi_31 (And.intro ⟨rfl, rfl, rfl, rfl⟩ (And.intro rfl ?_)))
          refine fcallp hB103 (ct_City_level_61deb (fBz h0 hB103)) ?_
          rintro _ ⟨z104, rfl, hz104, g0z104⟩
          try rw [r116, r97, r85, r64, r43, r31] at g0z104
          refine Exists.intro xm_30 (And.intro mi_30 (And.intro ⟨rfl, rfl, rfl, rfl⟩ (And.intro rfl ?_)))
          refine fcall _ h0 (fzs_sub (by decide +kernel) hW) hB103 (ct_Charter_put_c2709 (fBz h0 hB103) (by first | exact ⟨by decide, by decide⟩ | omega) (by first | exact ⟨hz104.1, Int.le_trans hz104.2 (by decide)⟩ | omega)) ?_
          rintro IhB106 _ hB106 fhB106 ⟨rfl, hz105, g0z105⟩
          have r126 := cR_fr (d := 0) cZ0_ok fhB106 (by decide +kernel)
          exact ⟨rfl, True.intro, (by exfalso; omega), (cR_fr (d := 0) cZ0_ok (fFr_of hB106) (by decide +kernel))⟩
      · intro c107
        refine And.intro ⟨rfl, by decide, by decide⟩ ?_
        refine fload1 rL_172_172_0_23_1_0 h0 hB76 ⟨by decide, by decide⟩ (by first | exact ⟨ha2.1, ha2.2⟩ | omega) ?_
        intro z108 lz108 uz108 qz108
        have v59 := cL_a (d := 0) (a := 172) (n := 24) (b := 536) (m := 14) (by decide +kernel) (by decide) qz108 (by omega) rfl
        rw [r43, r31] at v59
        refine Exists.intro xm_30 (And.intro mi_30 (And.intro ⟨rfl, rfl, rfl, rfl⟩ (And.intro rfl ?_)))
        refine fcall _ h0 (fzs_sub (by decide +kernel) hW) hB76 (ct_Charter_put_c2709 (fBz h0 hB76) (by first | exact ⟨by decide, by decide⟩ | omega) (by first | exact ⟨lz108, Int.le_trans uz108 (by decide)⟩ | omega)) ?_
        rintro IhB110 _ hB110 fhB110 ⟨rfl, hz109, g0z109⟩
        have r64 := cR_fr (d := 0) cZ0_ok fhB110 (by decide +kernel)
        refine And.intro (by first | exact ⟨by decide, by decide⟩ | omega) (And.intro ?_ ?_)
        · intro c111
          refine Exists.intro xm_30 (And.intro mi_30 (And.intro ⟨rfl, rfl, rfl, rfl⟩ (And.intro rfl ?_)))
          refine fcall _ h0 (fzs_sub (by decide +kernel) hW) hB110 (ct_Charter_put_c2709 (fBz h0 hB110) (by first | exact ⟨by decide, by decide⟩ | omega) (by omega)) ?_
          rintro IhB113 _ hB113 fhB113 ⟨rfl, hz112, g0z112⟩
          have r85 := cR_fr (d := 0) cZ0_ok fhB113 (by decide +kernel)
          refine And.intro ⟨rfl, by decide, by decide⟩ ?_
          refine fload1 rL_168_168_0_23_1_0 h0 hB113 ⟨by decide, by decide⟩ (by first | exact ⟨ha2.1, ha2.2⟩ | omega) ?_
          intro z114 lz114 uz114 qz114
          have v96 := cL_a (d := 0) (a := 168) (n := 24) (b := 534) (m := 14) (by decide +kernel) (by decide) qz114 (by omega) rfl
          rw [r85, r64, r43, r31] at v96
          refine Exists.intro xm_30 (And.intro mi_30 (And.intro ⟨rfl, rfl, rfl, rfl⟩ (And.intro rfl ?_)))
          refine fcall _ h0 (fzs_sub (by decide +kernel) hW) hB113 (ct_Charter_put_c2709 (fBz h0 hB113) (by first | exact ⟨by decide, by decide⟩ | omega) (by first | exact ⟨lz114, Int.le_trans uz114 (by decide)⟩ | omega)) ?_
          rintro IhB116 _ hB116 fhB116 ⟨rfl, hz115, g0z115⟩
          have r97 := cR_fr (d := 0) cZ0_ok fhB116 (by decide +kernel)
          refine And.intro ⟨rfl, by decide, by decide⟩ ?_
          refine And.intro ⟨rfl, by decide, by decide⟩ ?_
          refine fload1 rL_165_165_0_23_1_0 h0 hB116 ⟨by decide, by decide⟩ (by first | exact ⟨ha2.1, ha2.2⟩ | omega) ?_
          intro z117 lz117 uz117 qz117
          have v112 := cL_a (d := 0) (a := 165) (n := 24) (b := 531) (m := 14) (by decide +kernel) (by decide) qz117 (by omega) rfl
          rw [r97, r85, r64, r43, r31] at v112
          refine Exists.intro xm_20 (And.intro mi_20 (And.intro ⟨rfl, rfl, rfl, rfl⟩ (And.intro rfl ?_)))
          refine fcallp hB116 (ct_People_livingIn_ff6d0 (fBz h0 hB116) (by first | exact ⟨lz117, uz117⟩ | omega)) ?_
          rintro _ ⟨z118, rfl, hz118, g0z118⟩
          try rw [r97, r85, r64, r43, r31] at g0z118
          refine Exists.intro xm_30 (And.intro mi_30 (And.intro ⟨rfl, rfl, rfl, rfl⟩ (And.intro rfl ?_)))
          refine fcall _ h0 (fzs_sub (by decide +kernel) hW) hB116 (ct_Charter_put_c2709 (fBz h0 hB116) (by first | exact ⟨by decide, by decide⟩ | omega) (by first | exact ⟨hz118.1, Int.le_trans hz118.2 (by decide)⟩ | omega)) ?_
          rintro IhB120 _ hB120 fhB120 ⟨rfl, hz119, g0z119⟩
          have r116 := cR_fr (d := 0) cZ0_ok fhB120 (by decide +kernel)
          refine Exists.intro xm_31 (And.intro mi_31 (And.intro ⟨rfl, rfl, rfl, rfl⟩ (And.intro rfl ?_)))
          refine fcallp hB120 (ct_City_level_61deb (fBz h0 hB120)) ?_
          rintro _ ⟨z121, rfl, hz121, g0z121⟩
          try rw [r116, r97, r85, r64, r43, r31] at g0z121
          refine Exists.intro xm_30 (And.intro mi_30 (And.intro ⟨rfl, rfl, rfl, rfl⟩ (And.intro rfl ?_)))
          refine fcall _ h0 (fzs_sub (by decide +kernel) hW) hB120 (ct_Charter_put_c2709 (fBz h0 hB120) (by first | exact ⟨by decide, by decide⟩ | omega) (by first | exact ⟨hz121.1, Int.le_trans hz121.2 (by decide)⟩ | omega)) ?_
          rintro IhB123 _ hB123 fhB123 ⟨rfl, hz122, g0z122⟩
          have r126 := cR_fr (d := 0) cZ0_ok fhB123 (by decide +kernel)
          exact ⟨rfl, True.intro, (by exfalso; omega), (cR_fr (d := 0) cZ0_ok (fFr_of hB123) (by decide +kernel))⟩
        · intro c124
          refine And.intro ⟨rfl, by decide, by decide⟩ ?_
          refine fload1 rL_171_171_0_23_1_0 h0 hB110 ⟨by decide, by decide⟩ (by first | exact ⟨ha2.1, ha2.2⟩ | omega) ?_
          intro z125 lz125 uz125 qz125
          have v80 := cL_a (d := 0) (a := 171) (n := 24) (b := 535) (m := 14) (by decide +kernel) (by decide) qz125 (by omega) rfl
          rw [r64, r43, r31] at v80
          refine Exists.intro xm_30 (And.intro mi_30 (And.intro ⟨rfl, rfl, rfl, rfl⟩ (And.intro rfl ?_)))
          refine fcall _ h0 (fzs_sub (by decide +kernel) hW) hB110 (ct_Charter_put_c2709 (fBz h0 hB110) (by first | exact ⟨by decide, by decide⟩ | omega) (by first | exact ⟨lz125, Int.le_trans uz125 (by decide)⟩ | omega)) ?_
          rintro IhB127 _ hB127 fhB127 ⟨rfl, hz126, g0z126⟩
          have r85 := cR_fr (d := 0) cZ0_ok fhB127 (by decide +kernel)
          refine And.intro ⟨rfl, by decide, by decide⟩ ?_
          refine fload1 rL_168_168_0_23_1_0 h0 hB127 ⟨by decide, by decide⟩ (by first | exact ⟨ha2.1, ha2.2⟩ | omega) ?_
          intro z128 lz128 uz128 qz128
          have v96 := cL_a (d := 0) (a := 168) (n := 24) (b := 534) (m := 14) (by decide +kernel) (by decide) qz128 (by omega) rfl
          rw [r85, r64, r43, r31] at v96
          refine Exists.intro xm_30 (And.intro mi_30 (And.intro ⟨rfl, rfl, rfl, rfl⟩ (And.intro rfl ?_)))
          refine fcall _ h0 (fzs_sub (by decide +kernel) hW) hB127 (ct_Charter_put_c2709 (fBz h0 hB127) (by first | exact ⟨by decide, by decide⟩ | omega) (by first | exact ⟨lz128, Int.le_trans uz128 (by decide)⟩ | omega)) ?_
          rintro IhB130 _ hB130 fhB130 ⟨rfl, hz129, g0z129⟩
          have r97 := cR_fr (d := 0) cZ0_ok fhB130 (by decide +kernel)
          refine And.intro ⟨rfl, by decide, by decide⟩ ?_
          refine And.intro ⟨rfl, by decide, by decide⟩ ?_
          refine fload1 rL_165_165_0_23_1_0 h0 hB130 ⟨by decide, by decide⟩ (by first | exact ⟨ha2.1, ha2.2⟩ | omega) ?_
          intro z131 lz131 uz131 qz131
          have v112 := cL_a (d := 0) (a := 165) (n := 24) (b := 531) (m := 14) (by decide +kernel) (by decide) qz131 (by omega) rfl
          rw [r97, r85, r64, r43, r31] at v112
          refine Exists.intro xm_20 (And.intro mi_20 (And.intro ⟨rfl, rfl, rfl, rfl⟩ (And.intro rfl ?_)))
          refine fcallp hB130 (ct_People_livingIn_ff6d0 (fBz h0 hB130) (by first | exact ⟨lz131, uz131⟩ | omega)) ?_
          rintro _ ⟨z132, rfl, hz132, g0z132⟩
          try rw [r97, r85, r64, r43, r31] at g0z132
          refine Exists.intro xm_30 (And.intro mi_30 (And.intro ⟨rfl, rfl, rfl, rfl⟩ (And.intro rfl ?_)))
          refine fcall _ h0 (fzs_sub (by decide +kernel) hW) hB130 (ct_Charter_put_c2709 (fBz h0 hB130) (by first | exact ⟨by decide, by decide⟩ | omega) (by first | exact ⟨hz132.1, Int.le_trans hz132.2 (by decide)⟩ | omega)) ?_
          rintro IhB134 _ hB134 fhB134 ⟨rfl, hz133, g0z133⟩
          have r116 := cR_fr (d := 0) cZ0_ok fhB134 (by decide +kernel)
          refine Exists.intro xm_31 (And.intro mi_31 (And.intro ⟨rfl, rfl, rfl, rfl⟩ (And.intro rfl ?_)))
          refine fcallp hB134 (ct_City_level_61deb (fBz h0 hB134)) ?_
          rintro _ ⟨z135, rfl, hz135, g0z135⟩
          try rw [r116, r97, r85, r64, r43, r31] at g0z135
          refine Exists.intro xm_30 (And.intro mi_30 (And.intro ⟨rfl, rfl, rfl, rfl⟩ (And.intro rfl ?_)))
          refine fcall _ h0 (fzs_sub (by decide +kernel) hW) hB134 (ct_Charter_put_c2709 (fBz h0 hB134) (by first | exact ⟨by decide, by decide⟩ | omega) (by first | exact ⟨hz135.1, Int.le_trans hz135.2 (by decide)⟩ | omega)) ?_
          rintro IhB137 _ hB137 fhB137 ⟨rfl, hz136, g0z136⟩
          have r126 := cR_fr (d := 0) cZ0_ok fhB137 (by decide +kernel)
          exact ⟨rfl, True.intro, (nmS_c g0z72 g0z75 g0z109 g0z126 g0z129 g0z133 g0z136 (by decide) (by decide) (by decide) (by decide) (by decide) (by decide) (by decide) (gt_at v30 (by omega)) (gt_at v42 (by omega)) (skin_v (gt_at v10 (by omega)) (Or.inl ⟨by omega, rfl, gt_at v59 (by omega)⟩)) (skin_v (gt_at v10 (by omega)) (Or.inl ⟨by omega, rfl, gt_at v80 (by omega)⟩)) (gt_at v96 (by omega)) (g0z132.trans (by rw [gt_at v112 (show _ = 531 + 14 * x2 by omega)])) g0z135), (cR_fr (d := 0) cZ0_ok (fFr_of hB137) (by decide +kernel))⟩
set_option maxRecDepth 8000 in
theorem ct_Charter_shedWorth_7321f {I : fH} {x2 : Int} (h0 : fB bsJ I) (ha2 : (0 ≤ x2 ∧ x2 ≤ 23)) (hp0 : okL (cLw 0 I)) : fC ρ base n F xTc vwCl xTys D dA la gJ (fbz bsJ znJ (fKc wz_7d09b) I) xm_150 [.inr (.inr (some 187)), .inr (.inr (some 1)), .inl x2] I (fun I' r => ∃ z, r = some (.inl z) ∧ ((-2147483648) ≤ z ∧ z ≤ 2147483647) ∧ (z = sRk (cR 0 I) (cLw 0 I) x2.toNat) ∧ (cR 0 I' = cR 0 I)) := by
  have hW : fzs wz_7d09b (fKc wz_7d09b) := fKc_ok _
  refine f_meth (rb := rbJ) (J := []) 1 400 xG xin_150 x6_150 okJ (fB_self h0) ?_ ?_
  · exact fun q h => absurd h List.not_mem_nil
  · have hB0 := fB_self (zn := znJ) (K := fKc wz_7d09b) h0
    refine And.intro ⟨rfl, by decide, by decide⟩ ?_
    refine Exists.intro xm_50 (And.intro mi_50 (And.intro ⟨rfl, rfl, rfl, rfl⟩ (And.intro rfl ?_)))
    refine fcallp hB0 (ct_Works_isGone_6681e (fBz h0 hB0) (by first | exact ⟨ha2.1, ha2.2⟩ | omega)) ?_
    rintro _ ⟨z1, rfl, hz1, g0z1⟩
    refine And.intro (by omega) (And.intro ?_ ?_)
    · intro c2
      try replace hz1 := wj_ hz1.2 c2
      refine Exists.intro xm_32 (And.intro mi_32 (And.intro ⟨rfl, rfl, rfl, rfl⟩ (And.intro rfl ?_)))
      refine fcallp hB0 (ct_City_hour_b7a7b (fBz h0 hB0)) ?_
      rintro _ ⟨z3, rfl, hz3, g0z3⟩
      refine Exists.intro xm_34 (And.intro mi_34 (And.intro ⟨rfl, rfl, rfl, rfl⟩ (And.intro rfl ?_)))
      refine fcallp hB0 (ct_Charter_counting_8f92c (fBz h0 hB0) (by first | exact ⟨by decide, by decide⟩ | omega) (by first | exact ⟨hz3.1, hz3.2⟩ | omega) hp0) ?_
      rintro _ ⟨z4, rfl, hz4, g0z4⟩
      refine And.intro (by omega) (And.intro ?_ ?_)
      · intro c5
        refine Exists.intro xm_151 (And.intro mi_151 (And.intro ⟨rfl, rfl, rfl, rfl⟩ (And.intro rfl ?_)))
        refine fcall _ h0 (fzs_sub (by decide +kernel) hW) hB0 (ct_Charter_putWork_fb8e9 (fBz h0 hB0) (by first | exact ⟨ha2.1, ha2.2⟩ | omega)) ?_
        rintro IhB7 _ hB7 fhB7 ⟨rfl, hz6, g0z6, g1z6⟩
        have eL : cLw 0 IhB7 = cLw 0 I := (cLw_fr lZ0_ok (fFr_of hB7) (by decide +kernel))
        refine Exists.intro xm_36 (And.intro mi_36 (And.intro ⟨rfl, rfl, rfl, rfl⟩ (And.intro rfl ?_)))
        refine fcall _ h0 (fzs_sub (by decide +kernel) hW) hB7 (ct_Charter_worth_04d20 (fBz h0 hB7) (by omega) (by rw [eL]; exact hp0) (by rw [eL]; exact (cnZ_1 g0z4 (by omega)).1.2)) ?_
        rintro IhB9 _ hB9 fhB9 ⟨z8, rfl, hz8, g0z8⟩
        have r47 := cR_fr (d := 0) cZ0_ok fhB9 (by decide +kernel)
        refine And.intro (True.intro) ?_
        exact ⟨_, rfl, (by first | exact ⟨hz8.1, hz8.2⟩ | omega), (rk_1 (w := x2) (by omega) (g0z1.elim (fun q => absurd q.1 (by omega)) (fun q => q.2)) (rwk_1 (w := x2) (by omega) ((cnZ_1 g0z4 (by omega)).2.trans (congrArg (cnT (cLw 0 I) 2) g0z3)) (by omega) eL hp0 g0z8 g0z6)), (cR_fr (d := 0) cZ0_ok (fFr_of hB9) (by decide +kernel))⟩
      · intro c10
        refine And.intro ⟨rfl, by decide, by decide⟩ ?_
        refine And.intro ⟨rfl, by decide, by decide⟩ ?_
        refine fload1 rL_166_166_0_23_1_0 h0 hB0 ⟨by decide, by decide⟩ (by first | exact ⟨ha2.1, ha2.2⟩ | omega) ?_
        intro z11 lz11 uz11 qz11
        have v37 := cL_a (d := 0) (a := 166) (n := 24) (b := 532) (m := 14) (by decide +kernel) (by decide) qz11 (by omega) rfl
        refine And.intro (True.intro) ?_
        exact ⟨_, rfl, (by first | exact ⟨Int.le_trans (by decide) lz11, Int.le_trans uz11 (by decide)⟩ | omega), (rk_1 (w := x2) (by omega) (g0z1.elim (fun q => absurd q.1 (by omega)) (fun q => q.2)) (rwk_0 (c := -1) (w := x2) (by omega) ((cnZ_0 g0z4 (by omega)).symm.trans (congrArg (cnT (cLw 0 I) 2) g0z3)) (by omega) rfl v37 (by omega))), (cR_fr (d := 0) cZ0_ok (fFr_of hB0) (by decide +kernel))⟩
    · intro c12
      try replace hz1 := And.intro (wk_ hz1.1 c12) (wi_ hz1.2 c12)
      refine And.intro (True.intro) ?_
      exact ⟨_, rfl, (by first | exact ⟨by decide, by decide⟩ | omega), (rk_0 (w := x2) (by omega) (g0z1.elim (fun q => q.2) (fun q => absurd q.1 (by omega))) rfl), (cR_fr (d := 0) cZ0_ok (fFr_of hB0) (by decide +kernel))⟩
abbrev jc_Charter_rankSheds_09e4d_2 (I0 : fH) : Nat → fL → List fV → fH → Prop := fun m lv st I => ∃ (y2 : Int), lv = [(0, .inr (.inr (some 187))), (1, .inr (.inr (some 1))), (2, .inl y2)] ∧ st = [] ∧ (((0 ≤ y2 ∧ y2 ≤ 24) ∧ (y2 ≤ I0 163 13)) ∧ (∀ i : Nat, (i : Int) < y2 → I 210 i = (sRk (cR 0 I0) (cLw 0 I0)) i)) ∧ m = (1 + 1 * (24 - y2) : Int).toNat
set_option maxRecDepth 8000 in
theorem ct_Charter_rankSheds_09e4d {I : fH}  (h0 : fB bsJ I) (hp0 : okL (cLw 0 I)) : fC ρ base n F xTc vwCl xTys D dA la gJ (fbz bsJ znJ (fKc wz_b4fc8) I) xm_149 [.inr (.inr (some 187)), .inr (.inr (some 1))] I (fun I' r => r = none ∧ True ∧ (∀ i : Nat, (i : Int) < gt (cR 0 I) 7 → I' 210 i = (sRk (cR 0 I) (cLw 0 I)) i) ∧ (cR 0 I' = cR 0 I)) := by
  have hW : fzs wz_b4fc8 (fKc wz_b4fc8) := fKc_ok _
  refine f_meth (rb := rbJ) (J := [(2, (jc_Charter_rankSheds_09e4d_2 I))]) 26 400 xG xin_149 x6_149 okJ (fB_self h0) ?_ ?_
  · refine List.forall_mem_cons.mpr ⟨?_, fun q h => absurd h List.not_mem_nil⟩
    · rintro m _ _ I1 hB1 ⟨y2, rfl, rfl, ⟨hb, hx0⟩, hm⟩
      have k1 := fBz_eq hB1 (a := 163) (j := 13) (by decide +kernel)
      have b2 := fBd fb_163_13 (fBz h0 hB1)
      have eR : cR 0 I1 = cR 0 I := cR_fr (d := 0) cZ0_ok (fFr_of hB1) (by decide +kernel)
      skip
      have eL : cLw 0 I1 = cLw 0 I := (cLw_fr lZ0_ok (fFr_of hB1) (by decide +kernel))
      have w7 := (cL_f (d := 0) (a := 163) (j := 13) (r := 7) (p := 7) (I := I) (z := I 163 13) (by decide +kernel) (by decide) rfl rfl)
      refine And.intro ⟨rfl, by decide, by decide⟩ ?_
      refine And.intro ⟨rfl, by decide, by decide⟩ (fgetf fb_163_13 h0 hB1 ?_)
      intro z3 lz3 uz3 qz3
      have v7 := cL_f (d := 0) (a := 163) (j := 13) (r := 7) (p := 7) (by decide +kernel) (by decide) qz3 rfl
      rw [eR] at v7
      refine And.intro (And.intro (by first | exact fi_ hb.1.1 hb.1.2 rfl | omega) (by first | exact fi_ lz3 uz3 rfl | omega)) (And.intro ?_ ?_)
      · intro c4
        exact ⟨rfl, True.intro, (fun i l => hx0 i (by omega)), (cR_fr (d := 0) cZ0_ok (fFr_of hB1) (by decide +kernel))⟩
      · intro c5
        refine And.intro ⟨rfl, by decide, by decide⟩ ?_
        refine Exists.intro xm_150 (And.intro mi_150 (And.intro ⟨rfl, rfl, rfl, rfl⟩ (And.intro rfl ?_)))
        refine fcall _ h0 (fzs_sub (by decide +kernel) hW) hB1 (ct_Charter_shedWorth_7321f (fBz h0 hB1) (by first | exact ⟨hb.1.1, Int.le_trans (Int.le_sub_one_of_lt (Int.lt_of_lt_of_le c5 uz3)) (by decide)⟩ | omega) (by rw [eL]; exact hp0)) ?_
        rintro IhB7 _ hB7 fhB7 ⟨z6, rfl, hz6, g0z6, g1z6⟩
        have t8 := fhB7 163 13 (by decide +kernel)
        have k9 := fBz_eq hB7 (a := 163) (j := 13) (by decide +kernel)
        rw [eL, eR] at g0z6
        refine fstore1 rS_210_210_0_23_1_0 (fzs_sub (by decide +kernel) hW) ⟨by decide, by decide⟩ (by first | exact ⟨hb.1.1, Int.le_trans (Int.le_sub_one_of_lt (Int.lt_of_lt_of_le c5 uz3)) (by decide)⟩ | omega) (by first | exact ⟨hz6.1, hz6.2⟩ | omega) ?_
        intro IhB10 ehB10 hB10
        have t11 := fup_self ehB10
        have t12 : IhB10 163 13 = IhB7 163 13 := (congrFun (congrFun ehB10 163) 13).trans (fup_ne (by first | exact Or.inl (by decide) | omega))
        have k13 := fBz_eq hB10 (a := 163) (j := 13) (by decide +kernel)
        have r24 := cR_ot (d := 0) ehB10 (by decide)
        exact fcutJ (I := IhB10) (j := (jc_Charter_rankSheds_09e4d_2 I)) (lv' := [(0, .inr (.inr (some 187))), (1, .inr (.inr (some 1))), (2, .inl _)]) (And.intro rfl (And.intro rfl (And.intro rfl True.intro))) ⟨_, rfl, rfl, ⟨by omega, (ar_S (fun i l => (fFr_at fhB7 210 (by decide +kernel) rfl i).trans (hx0 i l)) (pn_st ehB10 rfl) (by omega) (by omega) g0z6)⟩, rfl⟩ (by omega)
  · have hB0 := fB_self (zn := znJ) (K := fKc wz_b4fc8) h0
    have b14 := fBd fb_163_13 (fBz h0 hB0)
    exact fcutJ (I := I) (j := (jc_Charter_rankSheds_09e4d_2 I)) (lv' := [(0, .inr (.inr (some 187))), (1, .inr (.inr (some 1))), (2, .inl _)]) (And.intro rfl (And.intro rfl (And.intro rfl True.intro))) ⟨_, rfl, rfl, ⟨by omega, (ar_0 (by omega))⟩, rfl⟩ (by omega)
abbrev jc_X_order_a16c4_32 (x1 : Int) (I0 : fH) : Nat → fL → List fV → fH → Prop := fun m lv st I => ∃ (y1 : Int) (y2 : Int) (y3 : Int), lv = [(0, .inr (.inr (some 0))), (1, .inl y1), (2, .inl y2), (3, .inl y3)] ∧ st = [] ∧ (((0 ≤ y1 ∧ y1 ≤ 2147483647) ∧ ((0 ≤ y2 ∧ y2 ≤ 23) ∨ y2 = (-1000000005)) ∧ (0 ≤ y3 ∧ y3 ≤ 2147483647) ∧ (y1 = x1) ∧ (y3 ≤ x1) ∧ (0 ≤ x1)) ∧ (y2 = od (sRk (cR 0 I0) (cLw 0 I0)) (gt (cR 0 I0) 7).toNat y3) ∧ ((y2 = -1000000005 ∧ cp (sRk (cR 0 I0) (cLw 0 I0)) (gt (cR 0 I0) 7).toNat ≤ y3) ∨ (0 ≤ y2 ∧ srI (sRk (cR 0 I0) (cLw 0 I0)) (gt (cR 0 I0) 7).toNat (I 210) (y3 + 1)))) ∧ m = (1 + 1 * (2147483647 - y3) : Int).toNat
set_option maxRecDepth 8000 in
theorem ct_X_order_a16c4 {I : fH} {x1 : Int} (h0 : fB bsJ I) (ha1 : ((-2147483648) ≤ x1 ∧ x1 ≤ 2147483647)) (hp0 : okL (cLw 0 I)) : fC ρ base n F xTc vwCl xTys D dA la gJ (fbz bsJ znJ (fKc wz_b4fc8) I) xm_148 [.inr (.inr (some 0)), .inl x1] I (fun I' r => ∃ z, r = some (.inl z) ∧ ((0 ≤ z ∧ z ≤ 23) ∨ z = (-1000000005) ∨ z = (-1000000001)) ∧ (z = oOrder (cR 0 I) (cLw 0 I) x1) ∧ (cR 0 I' = cR 0 I)) := by
  have hW : fzs wz_b4fc8 (fKc wz_b4fc8) := fKc_ok _
  refine f_meth (rb := rbJ) (J := [(32, (jc_X_order_a16c4_32 x1 I))]) 2147483649 400 xG xin_148 x6_148 okJ (fB_self h0) ?_ ?_
  · refine List.forall_mem_cons.mpr ⟨?_, fun q h => absurd h List.not_mem_nil⟩
    · rintro m _ _ I1 hB1 ⟨y1, y2, y3, rfl, rfl, ⟨hb, hx0, hx1⟩, hm⟩
      have b1 := fBd fb_163_13 (fBz h0 hB1)
      have eR : cR 0 I1 = cR 0 I := cR_fr (d := 0) cZ0_ok (fFr_of hB1) (by decide +kernel)
      skip
      have w907 : I 163 13 = gt (cR 0 I) 7 := (cL_f (d := 0) (a := 163) (j := 13) (r := 7) (p := 7) (I := I) (z := I 163 13) (by decide +kernel) (by decide) rfl rfl)
      have b907 := fBd fb_163_13 h0
      refine And.intro (And.intro (by first | exact fi_ hb.2.2.1.1 hb.2.2.1.2 rfl | omega) (by first | exact fi_ hb.1.1 hb.1.2 rfl | omega)) (And.intro ?_ ?_)
      · intro c2
        refine And.intro (True.intro) ?_
        exact ⟨_, rfl, by omega, (if_n (by omega) (by rw [show x1 = y3 by omega]; exact hx0)), (cR_fr (d := 0) cZ0_ok (fFr_of hB1) (by decide +kernel))⟩
      · intro c3
        refine And.intro (by omega) (And.intro ?_ ?_)
        · intro c4
          refine And.intro (True.intro) ?_
          exact ⟨_, rfl, by omega, (if_n (by omega) (od_n (hx1.elim (fun q => by have q2 := q.2; omega) (fun q => absurd q.1 (by omega))) (by omega))), (cR_fr (d := 0) cZ0_ok (fFr_of hB1) (by decide +kernel))⟩
        · intro c5
          refine And.intro ⟨rfl, by decide, by decide⟩ ?_
          refine And.intro ⟨rfl, by decide, by decide⟩ ?_
          refine Exists.intro xm_152 (And.intro mi_152 (And.intro ⟨rfl, rfl, rfl, rfl⟩ (And.intro rfl ?_)))
          refine fcall _ h0 (fzs_sub (by decide +kernel) hW) hB1 (ct_Charter_nextShed_baa16 (fBz h0 hB1)) ?_
          rintro IhB7 _ hB7 fhB7 ⟨z6, rfl, hz6, g0z6, g1z6⟩
          rw [eR] at g0z6
          have P1 := pk_od (j := y3 + 1) (j' := y3 + 1 + 1) (hx1.elim (fun q => absurd q.1 (by omega)) (fun q => q.2)) g0z6 (by omega) rfl
          exact fcutJ (I := IhB7) (j := (jc_X_order_a16c4_32 x1 I)) (lv' := [(0, .inr (.inr (some 0))), (1, .inl _), (2, .inl _), (3, .inl _)]) (And.intro rfl (And.intro rfl (And.intro rfl (And.intro rfl True.intro)))) ⟨_, _, _, rfl, rfl, ⟨by omega, P1.1, (P1.2.elim (fun q => Or.inl q) (fun q => Or.inr ⟨q.1, q.2.2⟩))⟩, rfl⟩ (by omega)
  · have hB0 := fB_self (zn := znJ) (K := fKc wz_b4fc8) h0
    have b8 := fBd fb_163_13 (fBz h0 hB0)
    have w907 : I 163 13 = gt (cR 0 I) 7 := (cL_f (d := 0) (a := 163) (j := 13) (r := 7) (p := 7) (I := I) (z := I 163 13) (by decide +kernel) (by decide) rfl rfl)
    refine And.intro (by first | exact fi_ ha1.1 ha1.2 rfl | omega) (And.intro ?_ ?_)
    · intro c9
      refine And.intro ⟨rfl, by decide, by decide⟩ ?_
      refine And.intro ⟨rfl, by decide, by decide⟩ ?_
      refine Exists.intro xm_149 (And.intro mi_149 (And.intro ⟨rfl, rfl, rfl, rfl⟩ (And.intro rfl ?_)))
      refine fcall _ h0 (fzs_sub (by decide +kernel) hW) hB0 (ct_Charter_rankSheds_09e4d (fBz h0 hB0) hp0) ?_
      rintro IhB11 _ hB11 fhB11 ⟨rfl, hz10, g0z10, g1z10⟩
      have s0 : srI (sRk (cR 0 I) (cLw 0 I)) (gt (cR 0 I) 7).toNat (IhB11 210) 0 := sr_0 (fun i l => g0z10 i (by omega)) rfl
      refine And.intro ⟨rfl, by decide, by decide⟩ ?_
      refine And.intro ⟨rfl, by decide, by decide⟩ ?_
      refine Exists.intro xm_152 (And.intro mi_152 (And.intro ⟨rfl, rfl, rfl, rfl⟩ (And.intro rfl ?_)))
      refine fcall _ h0 (fzs_sub (by decide +kernel) hW) hB11 (ct_Charter_nextShed_baa16 (fBz h0 hB11)) ?_
      rintro IhB13 _ hB13 fhB13 ⟨z12, rfl, hz12, g0z12, g1z12⟩
      rw [g1z10] at g0z12
      have P0 := pk_od (j := 0) (j' := 0 + 1) s0 g0z12 (by omega) rfl
      exact fcutJ (I := IhB13) (j := (jc_X_order_a16c4_32 x1 I)) (lv' := [(0, .inr (.inr (some 0))), (1, .inl _), (2, .inl _), (3, .inl _)]) (And.intro rfl (And.intro rfl (And.intro rfl (And.intro rfl True.intro)))) ⟨_, _, _, rfl, rfl, ⟨by omega, P0.1, (P0.2.elim (fun q => Or.inl q) (fun q => Or.inr ⟨q.1, q.2.2⟩))⟩, rfl⟩ (by omega)
    · intro c14
      refine And.intro (True.intro) ?_
      exact ⟨_, rfl, by omega, (if_y (by omega) rfl), (cR_fr (d := 0) cZ0_ok (fFr_of hB0) (by decide +kernel))⟩
set_option maxRecDepth 8000 in
theorem ct_M_worthOf_2d64c {I : fH} {x1 : Int} {x2 : Int} (h0 : fB bsJ I) (ha1 : ((-1) ≤ x1 ∧ x1 ≤ 11)) (ha2 : (0 ≤ x2 ∧ x2 ≤ 23)) (hp0 : sI I 741) (hp1 : x1 < I 741 9) (hp2 : okL (mLw 741 I)) (hp3 : okE 741 I) (hp4 : x1 = cnT (mLw 741 I) 2 (sHr (mR I))) : fC ρ base n F xTc vwCl xTys D dA la gJ (fbz bsJ znJ (fKc wz_5ef89) I) xm_435 [.inr (.inr (some 740)), .inl x1, .inl x2] I (fun I' r => ∃ z, r = some (.inl z) ∧ ((-2147483648) ≤ z ∧ z ≤ 2147483647) ∧ (z = sRw (mR I) (mLw 741 I) x2.toNat) ∧ (mR I' = mR I)) := by
  have hW : fzs wz_5ef89 (fKc wz_5ef89) := fKc_ok _
  refine f_meth (rb := rbJ) (J := []) 1 400 xG xin_435 x6_435 okJ (fB_self h0) ?_ ?_
  · exact fun q h => absurd h List.not_mem_nil
  · have hB0 := fB_self (zn := znJ) (K := fKc wz_5ef89) h0
    refine Exists.intro xm_244 (And.intro mi_244 (And.intro ⟨rfl, rfl, rfl, rfl⟩ (And.intro rfl ?_)))
    refine fcallp hB0 (ct_M_workAt_83d38 (fBz h0 hB0) (by first | exact ⟨ha2.1, ha2.2⟩ | omega)) ?_
    rintro _ ⟨_, rfl, rfl⟩
    refine And.intro ⟨rfl, by decide, by decide⟩ ?_
    refine fload rL_741_741_530_852_14_0 h0 hB0 (by omega) ?_
    intro z2 lz2 uz2 qz2
    have v13 := mL_r (i0 := 530) (i1 := 852) (m := 14) (q := 0) (by decide +kernel) qz2 (by omega) rfl
    refine And.intro (And.intro (by first | exact fi_ lz2 uz2 rfl | omega) (by first | exact ⟨by decide, by decide⟩ | omega)) (And.intro ?_ ?_)
    · intro c3
      refine And.intro ⟨rfl, by decide, by decide⟩ ?_
      refine And.intro ⟨rfl, by decide, by decide⟩ ?_
      refine fload rL_741_741_530_852_14_0 h0 hB0 (by omega) ?_
      intro z4 lz4 uz4 qz4
      have v38 := mL_r (i0 := 530) (i1 := 852) (m := 14) (q := 0) (by decide +kernel) qz4 (by omega) rfl
      refine fstore1 rS_748_748_0_127_1_0 (fzs_sub (by decide +kernel) hW) ⟨by decide, by decide⟩ (by first | exact ⟨by decide, by decide⟩ | omega) (by first | exact ⟨Int.le_trans (by decide) lz4, Int.le_trans uz4 (by decide)⟩ | omega) ?_
      intro IhB5 ehB5 hB5
      have t6 := fup_self ehB5
      have t7 := fup_at ehB5 107 (by first | rfl | omega)
      have k8 := fBz_eq hB5 (a := 741) (j := 9) (by decide +kernel)
      have r39 := mR_ot ehB5 (by decide)
      refine And.intro ⟨rfl, by decide, by decide⟩ ?_
      refine And.intro ⟨rfl, by decide, by decide⟩ ?_
      refine fload rL_741_741_532_854_14_0 h0 hB5 (by omega) ?_
      intro z9 lz9 uz9 qz9
      have v53 := mL_r (i0 := 532) (i1 := 854) (m := 14) (q := 0) (by decide +kernel) qz9 (by omega) rfl
      rw [r39] at v53
      refine fstore1 rS_748_748_0_127_1_0 (fzs_sub (by decide +kernel) hW) ⟨by decide, by decide⟩ (by first | exact ⟨by decide, by decide⟩ | omega) (by first | exact ⟨Int.le_trans (by decide) lz9, Int.le_trans uz9 (by decide)⟩ | omega) ?_
      intro IhB10 ehB10 hB10
      have t11 := fup_self ehB10
      have t12 : IhB10 748 107 = IhB5 748 107 := (congrFun (congrFun ehB10 748) 107).trans (fup_ne (by first | decide | omega))
      have t13 := fup_at ehB10 109 (by first | rfl | omega)
      have k14 := fBz_eq hB10 (a := 741) (j := 9) (by decide +kernel)
      have r54 := mR_ot ehB10 (by decide)
      refine And.intro ⟨rfl, by decide, by decide⟩ ?_
      refine And.intro (by omega) (And.intro ?_ ?_)
      · intro c15
        refine fstore1 rS_748_748_0_127_1_0 (fzs_sub (by decide +kernel) hW) ⟨by decide, by decide⟩ (by first | exact ⟨by decide, by decide⟩ | omega) (by omega) ?_
        intro IhB16 ehB16 hB16
        have t17 := fup_self ehB16
        have t18 := fup_at ehB16 103 (by first | rfl | omega)
        have t19 : IhB16 748 107 = IhB10 748 107 := (congrFun (congrFun ehB16 748) 107).trans (fup_ne (by first | decide | omega))
        have t20 : IhB16 748 109 = IhB10 748 109 := (congrFun (congrFun ehB16 748) 109).trans (fup_ne (by first | decide | omega))
        have k21 := fBz_eq hB16 (a := 741) (j := 9) (by decide +kernel)
        have r79 := mR_ot ehB16 (by decide)
        refine And.intro ⟨rfl, by decide, by decide⟩ ?_
        refine And.intro (by omega) (And.intro ?_ ?_)
        · intro c22
          refine fstore1 rS_748_748_0_127_1_0 (fzs_sub (by decide +kernel) hW) ⟨by decide, by decide⟩ (by first | exact ⟨by decide, by decide⟩ | omega) (by omega) ?_
          intro IhB23 ehB23 hB23
          have t24 := fup_self ehB23
          have t25 : IhB23 748 103 = IhB16 748 103 := (congrFun (congrFun ehB23 748) 103).trans (fup_ne (by first | decide | omega))
          have t26 : IhB23 748 107 = IhB16 748 107 := (congrFun (congrFun ehB23 748) 107).trans (fup_ne (by first | decide | omega))
          have t27 := fup_at ehB23 108 (by first | rfl | omega)
          have t28 : IhB23 748 109 = IhB16 748 109 := (congrFun (congrFun ehB23 748) 109).trans (fup_ne (by first | decide | omega))
          have k29 := fBz_eq hB23 (a := 741) (j := 9) (by decide +kernel)
          have r103 := mR_ot ehB23 (by decide)
          refine And.intro ⟨rfl, by decide, by decide⟩ ?_
          refine And.intro ⟨rfl, by decide, by decide⟩ ?_
          refine fload rL_741_741_534_856_14_0 h0 hB23 (by omega) ?_
          intro z30 lz30 uz30 qz30
          have v117 := mL_r (i0 := 534) (i1 := 856) (m := 14) (q := 0) (by decide +kernel) qz30 (by omega) rfl
          rw [r103, r79, r54, r39] at v117
          refine fstore1 rS_748_748_0_127_1_0 (fzs_sub (by decide +kernel) hW) ⟨by decide, by decide⟩ (by first | exact ⟨by decide, by decide⟩ | omega) (by first | exact ⟨Int.le_trans (by decide) lz30, Int.le_trans uz30 (by decide)⟩ | omega) ?_
          intro IhB31 ehB31 hB31
          have t32 := fup_self ehB31
          have t33 := fup_at ehB31 102 (by first | rfl | omega)
          have t34 : IhB31 748 103 = IhB23 748 103 := (congrFun (congrFun ehB31 748) 103).trans (fup_ne (by first | decide | omega))
          have t35 : IhB31 748 107 = IhB23 748 107 := (congrFun (congrFun ehB31 748) 107).trans (fup_ne (by first | decide | omega))
          have t36 : IhB31 748 108 = IhB23 748 108 := (congrFun (congrFun ehB31 748) 108).trans (fup_ne (by first | decide | omega))
          have t37 : IhB31 748 109 = IhB23 748 109 := (congrFun (congrFun ehB31 748) 109).trans (fup_ne (by first | decide | omega))
          have k38 := fBz_eq hB31 (a := 741) (j := 9) (by decide +kernel)
          have r118 := mR_ot ehB31 (by decide)
          refine And.intro ⟨rfl, by decide, by decide⟩ ?_
          refine And.intro ⟨rfl, by decide, by decide⟩ ?_
          refine fload rL_741_741_531_853_14_0 h0 hB31 (by omega) ?_
          intro z39 lz39 uz39 qz39
          have v133 := mL_r (i0 := 531) (i1 := 853) (m := 14) (q := 0) (by decide +kernel) qz39 (by omega) rfl
          rw [r118, r103, r79, r54, r39] at v133
          refine Exists.intro xm_246 (And.intro mi_246 (And.intro ⟨rfl, rfl, rfl, rfl⟩ (And.intro rfl ?_)))
          refine fcallp hB31 (ct_M_peopleIn_76ab1 (fBz h0 hB31) (by first | exact ⟨lz39, uz39⟩ | omega)) ?_
          rintro _ ⟨z40, rfl, hz40, g0z40⟩
          try rw [r118, r103, r79, r54, r39] at g0z40
          refine fstore1 rS_748_748_0_127_1_0 (fzs_sub (by decide +kernel) hW) ⟨by decide, by decide⟩ (by first | exact ⟨by decide, by decide⟩ | omega) (by first | exact ⟨Int.le_trans (by decide) hz40.1, Int.le_trans hz40.2 (by decide)⟩ | omega) ?_
          intro IhB41 ehB41 hB41
          have t42 := fup_self ehB41
          have t43 : IhB41 748 102 = IhB31 748 102 := (congrFun (congrFun ehB41 748) 102).trans (fup_ne (by first | decide | omega))
          have t44 : IhB41 748 103 = IhB31 748 103 := (congrFun (congrFun ehB41 748) 103).trans (fup_ne (by first | decide | omega))
          have t45 : IhB41 748 107 = IhB31 748 107 := (congrFun (congrFun ehB41 748) 107).trans (fup_ne (by first | decide | omega))
          have t46 : IhB41 748 108 = IhB31 748 108 := (congrFun (congrFun ehB41 748) 108).trans (fup_ne (by first | decide | omega))
          have t47 : IhB41 748 109 = IhB31 748 109 := (congrFun (congrFun ehB41 748) 109).trans (fup_ne (by first | decide | omega))
          have t48 := fup_at ehB41 112 (by first | rfl | omega)
          have k49 := fBz_eq hB41 (a := 741) (j := 9) (by decide +kernel)
          have r137 := mR_ot ehB41 (by decide)
          have eL : mLw 741 IhB41 = mLw 741 I := (mLw_fr (fFr_of hB41) (by decide +kernel))
          have eQ : mR IhB41 = mR I := mR_fr (fFr_of hB41) (by decide +kernel)
          refine And.intro (by first | exact fi_ ha1.1 ha1.2 rfl | omega) (And.intro ?_ ?_)
          · intro c50
            refine Exists.intro xm_259 (And.intro mi_259 (And.intro ⟨rfl, rfl, rfl, rfl⟩ (And.intro rfl ?_)))
            refine fcall _ h0 (fzs_sub (by decide +kernel) hW) hB41 (ct_M_worked_0bc29 (fBz h0 hB41) (by first | exact ⟨Int.le_trans (by decide) (Int.le_trans (Int.le_refl _) c50), ha1.2⟩ | omega) (sI_keep hp0 h0 hB41 (by decide +kernel)) (by omega) (by rw [eL]; exact hp2) (okE_fr (fFr_of hB41) (by decide +kernel) hp3) (by rw [eL]; show x1 < I 741 9; omega)) ?_
            rintro IhB52 _ hB52 fhB52 ⟨z51, rfl, hz51, g0z51⟩
            have k53 := fBz_eq hB52 (a := 741) (j := 9) (by decide +kernel)
            have r155 := mR_fr fhB52 (by decide +kernel)
            refine And.intro (True.intro) ?_
            exact ⟨_, rfl, (by first | exact ⟨hz51.1, hz51.2⟩ | omega), (rwk_1 (w := x2) (by omega) hp4 (by omega) eL hp2 g0z51 (nmS_m eQ (pn_st ehB5 rfl) (pn_st ehB10 rfl) (pn_st ehB16 rfl) (pn_st ehB23 rfl) (pn_st ehB31 rfl) (pn_st ehB41 rfl) (gt_at v38 (by omega)) (gt_at v53 (by omega)) (skin_v (p := 536 + 14 * x2) (x := 0) (gt_at v13 (by omega)) (Or.inr ⟨by omega, rfl⟩)) (skin_v (p := 535 + 14 * x2) (x := 0) (gt_at v13 (by omega)) (Or.inr ⟨by omega, rfl⟩)) (gt_at v117 (by omega)) (g0z40.trans (by rw [gt_at v133 (show _ = 531 + 14 * x2 by omega)])))), (mR_fr (fFr_of hB52) (by decide +kernel))⟩
          · intro c54
            refine And.intro ⟨rfl, by decide, by decide⟩ ?_
            refine fload rL_741_741_532_854_14_0 h0 hB41 (by omega) ?_
            intro z55 lz55 uz55 qz55
            have v149 := mL_r (i0 := 532) (i1 := 854) (m := 14) (q := 0) (by decide +kernel) qz55 (by omega) rfl
            rw [r137, r118, r103, r79, r54, r39] at v149
            refine And.intro (True.intro) ?_
            exact ⟨_, rfl, (by first | exact ⟨Int.le_trans (by decide) lz55, Int.le_trans uz55 (by decide)⟩ | omega), (rwk_0 (w := x2) (by omega) hp4 (by omega) rfl v149 (by omega)), (mR_fr (fFr_of hB41) (by decide +kernel))⟩
        · intro c56
          refine And.intro ⟨rfl, by decide, by decide⟩ ?_
          refine fload rL_741_741_535_857_14_0 h0 hB16 (by omega) ?_
          intro z57 lz57 uz57 qz57
          have v98 := mL_r (i0 := 535) (i1 := 857) (m := 14) (q := 0) (by decide +kernel) qz57 (by omega) rfl
          rw [r79, r54, r39] at v98
          refine fstore1 rS_748_748_0_127_1_0 (fzs_sub (by decide +kernel) hW) ⟨by decide, by decide⟩ (by first | exact ⟨by decide, by decide⟩ | omega) (by first | exact ⟨Int.le_trans (by decide) lz57, Int.le_trans uz57 (by decide)⟩ | omega) ?_
          intro IhB58 ehB58 hB58
          have t59 := fup_self ehB58
          have t60 : IhB58 748 103 = IhB16 748 103 := (congrFun (congrFun ehB58 748) 103).trans (fup_ne (by first | decide | omega))
          have t61 : IhB58 748 107 = IhB16 748 107 := (congrFun (congrFun ehB58 748) 107).trans (fup_ne (by first | decide | omega))
          have t62 := fup_at ehB58 108 (by first | rfl | omega)
          have t63 : IhB58 748 109 = IhB16 748 109 := (congrFun (congrFun ehB58 748) 109).trans (fup_ne (by first | decide | omega))
          have k64 := fBz_eq hB58 (a := 741) (j := 9) (by decide +kernel)
          have r103 := mR_ot ehB58 (by decide)
          refine And.intro ⟨rfl, by decide, by decide⟩ ?_
          refine And.intro ⟨rfl, by decide, by decide⟩ ?_
          refine fload rL_741_741_534_856_14_0 h0 hB58 (by omega) ?_
          intro z65 lz65 uz65 qz65
          have v117 := mL_r (i0 := 534) (i1 := 856) (m := 14) (q := 0) (by decide +kernel) qz65 (by omega) rfl
          rw [r103, r79, r54, r39] at v117
          refine fstore1 rS_748_748_0_127_1_0 (fzs_sub (by decide +kernel) hW) ⟨by decide, by decide⟩ (by first | exact ⟨by decide, by decide⟩ | omega) (by first | exact ⟨Int.le_trans (by decide) lz65, Int.le_trans uz65 (by decide)⟩ | omega) ?_
          intro IhB66 ehB66 hB66
          have t67 := fup_self ehB66
          have t68 := fup_at ehB66 102 (by first | rfl | omega)
          have t69 : IhB66 748 103 = IhB58 748 103 := (congrFun (congrFun ehB66 748) 103).trans (fup_ne (by first | decide | omega))
          have t70 : IhB66 748 107 = IhB58 748 107 := (congrFun (congrFun ehB66 748) 107).trans (fup_ne (by first | decide | omega))
          have t71 : IhB66 748 108 = IhB58 748 108 := (congrFun (congrFun ehB66 748) 108).trans (fup_ne (by first | decide | omega))
          have t72 : IhB66 748 109 = IhB58 748 109 := (congrFun (congrFun ehB66 748) 109).trans (fup_ne (by first | decide | omega))
          have k73 := fBz_eq hB66 (a := 741) (j := 9) (by decide +kernel)
          have r118 := mR_ot ehB66 (by decide)
          refine And.intro ⟨rfl, by decide, by decide⟩ ?_
          refine And.intro ⟨rfl, by decide, by decide⟩ ?_
          refine fload rL_741_741_531_853_14_0 h0 hB66 (by omega) ?_
          intro z74 lz74 uz74 qz74
          have v133 := mL_r (i0 := 531) (i1 := 853) (m := 14) (q := 0) (by decide +kernel) qz74 (by omega) rfl
          rw [r118, r103, r79, r54, r39] at v133
          refine Exists.intro xm_246 (And.intro mi_246 (And.intro ⟨rfl, rfl, rfl, rfl⟩ (And.intro rfl ?_)))
          refine fcallp hB66 (ct_M_peopleIn_76ab1 (fBz h0 hB66) (by first | exact ⟨lz74, uz74⟩ | omega)) ?_
          rintro _ ⟨z75, rfl, hz75, g0z75⟩
          try rw [r118, r103, r79, r54, r39] at g0z75
          refine fstore1 rS_748_748_0_127_1_0 (fzs_sub (by decide +kernel) hW) ⟨by decide, by decide⟩ (by first | exact ⟨by decide, by decide⟩ | omega) (by first | exact ⟨Int.le_trans (by decide) hz75.1, Int.le_trans hz75.2 (by decide)⟩ | omega) ?_
          intro IhB76 ehB76 hB76
          have t77 := fup_self ehB76
          have t78 : IhB76 748 102 = IhB66 748 102 := (congrFun (congrFun ehB76 748) 102).trans (fup_ne (by first | decide | omega))
          have t79 : IhB76 748 103 = IhB66 748 103 := (congrFun (congrFun ehB76 748) 103).trans (fup_ne (by first | decide | omega))
          have t80 : IhB76 748 107 = IhB66 748 107 := (congrFun (congrFun ehB76 748) 107).trans (fup_ne (by first | decide | omega))
          have t81 : IhB76 748 108 = IhB66 748 108 := (congrFun (congrFun ehB76 748) 108).trans (fup_ne (by first | decide | omega))
          have t82 : IhB76 748 109 = IhB66 748 109 := (congrFun (congrFun ehB76 748) 109).trans (fup_ne (by first | decide | omega))
          have t83 := fup_at ehB76 112 (by first | rfl | omega)
          have k84 := fBz_eq hB76 (a := 741) (j := 9) (by decide +kernel)
          have r137 := mR_ot ehB76 (by decide)
          have eL : mLw 741 IhB76 = mLw 741 I := (mLw_fr (fFr_of hB76) (by decide +kernel))
          have eQ : mR IhB76 = mR I := mR_fr (fFr_of hB76) (by decide +kernel)
          refine And.intro (by first | exact fi_ ha1.1 ha1.2 rfl | omega) (And.intro ?_ ?_)
          · intro c85
            refine Exists.intro xm_259 (And.intro mi_259 (And.intro ⟨rfl, rfl, rfl, rfl⟩ (And.intro rfl ?_)))
            refine fcall _ h0 (fzs_sub (by decide +kernel) hW) hB76 (ct_M_worked_0bc29 (fBz h0 hB76) (by first | exact ⟨Int.le_trans (by decide) (Int.le_trans (Int.le_refl _) c85), ha1.2⟩ | omega) (sI_keep hp0 h0 hB76 (by decide +kernel)) (by omega) (by rw [eL]; exact hp2) (okE_fr (fFr_of hB76) (by decide +kernel) hp3) (by rw [eL]; show x1 < I 741 9; omega)) ?_
            rintro IhB87 _ hB87 fhB87 ⟨z86, rfl, hz86, g0z86⟩
            have k88 := fBz_eq hB87 (a := 741) (j := 9) (by decide +kernel)
            have r155 := mR_fr fhB87 (by decide +kernel)
            refine And.intro (True.intro) ?_
            exact ⟨_, rfl, (by first | exact ⟨hz86.1, hz86.2⟩ | omega), (by exfalso; omega), (mR_fr (fFr_of hB87) (by decide +kernel))⟩
          · intro c89
            refine And.intro ⟨rfl, by decide, by decide⟩ ?_
            refine fload rL_741_741_532_854_14_0 h0 hB76 (by omega) ?_
            intro z90 lz90 uz90 qz90
            have v149 := mL_r (i0 := 532) (i1 := 854) (m := 14) (q := 0) (by decide +kernel) qz90 (by omega) rfl
            rw [r137, r118, r103, r79, r54, r39] at v149
            refine And.intro (True.intro) ?_
            exact ⟨_, rfl, (by first | exact ⟨Int.le_trans (by decide) lz90, Int.le_trans uz90 (by decide)⟩ | omega), (by exfalso; omega), (mR_fr (fFr_of hB76) (by decide +kernel))⟩
      · intro c91
        refine And.intro ⟨rfl, by decide, by decide⟩ ?_
        refine fload rL_741_741_536_858_14_0 h0 hB10 (by omega) ?_
        intro z92 lz92 uz92 qz92
        have v74 := mL_r (i0 := 536) (i1 := 858) (m := 14) (q := 0) (by decide +kernel) qz92 (by omega) rfl
        rw [r54, r39] at v74
        refine fstore1 rS_748_748_0_127_1_0 (fzs_sub (by decide +kernel) hW) ⟨by decide, by decide⟩ (by first | exact ⟨by decide, by decide⟩ | omega) (by first | exact ⟨Int.le_trans (by decide) lz92, Int.le_trans uz92 (by decide)⟩ | omega) ?_
        intro IhB93 ehB93 hB93
        have t94 := fup_self ehB93
        have t95 := fup_at ehB93 103 (by first | rfl | omega)
        have t96 : IhB93 748 107 = IhB10 748 107 := (congrFun (congrFun ehB93 748) 107).trans (fup_ne (by first | decide | omega))
        have t97 : IhB93 748 109 = IhB10 748 109 := (congrFun (congrFun ehB93 748) 109).trans (fup_ne (by first | decide | omega))
        have k98 := fBz_eq hB93 (a := 741) (j := 9) (by decide +kernel)
        have r79 := mR_ot ehB93 (by decide)
        refine And.intro ⟨rfl, by decide, by decide⟩ ?_
        refine And.intro (by omega) (And.intro ?_ ?_)
        · intro c99
          refine fstore1 rS_748_748_0_127_1_0 (fzs_sub (by decide +kernel) hW) ⟨by decide, by decide⟩ (by first | exact ⟨by decide, by decide⟩ | omega) (by omega) ?_
          intro IhB100 ehB100 hB100
          have t101 := fup_self ehB100
          have t102 : IhB100 748 103 = IhB93 748 103 := (congrFun (congrFun ehB100 748) 103).trans (fup_ne (by first | decide | omega))
          have t103 : IhB100 748 107 = IhB93 748 107 := (congrFun (congrFun ehB100 748) 107).trans (fup_ne (by first | decide | omega))
          have t104 := fup_at ehB100 108 (by first | rfl | omega)
          have t105 : IhB100 748 109 = IhB93 748 109 := (congrFun (congrFun ehB100 748) 109).trans (fup_ne (by first | decide | omega))
          have k106 := fBz_eq hB100 (a := 741) (j := 9) (by decide +kernel)
          have r103 := mR_ot ehB100 (by decide)
          refine And.intro ⟨rfl, by decide, by decide⟩ ?_
          refine And.intro ⟨rfl, by decide, by decide⟩ ?_
          refine fload rL_741_741_534_856_14_0 h0 hB100 (by omega) ?_
          intro z107 lz107 uz107 qz107
          have v117 := mL_r (i0 := 534) (i1 := 856) (m := 14) (q := 0) (by decide +kernel) qz107 (by omega) rfl
          rw [r103, r79, r54, r39] at v117
          refine fstore1 rS_748_748_0_127_1_0 (fzs_sub (by decide +kernel) hW) ⟨by decide, by decide⟩ (by first | exact ⟨by decide, by decide⟩ | omega) (by first | exact ⟨Int.le_trans (by decide) lz107, Int.le_trans uz107 (by decide)⟩ | omega) ?_
          intro IhB108 ehB108 hB108
          have t109 := fup_self ehB108
          have t110 := fup_at ehB108 102 (by first | rfl | omega)
          have t111 : IhB108 748 103 = IhB100 748 103 := (congrFun (congrFun ehB108 748) 103).trans (fup_ne (by first | decide | omega))
          have t112 : IhB108 748 107 = IhB100 748 107 := (congrFun (congrFun ehB108 748) 107).trans (fup_ne (by first | decide | omega))
          have t113 : IhB108 748 108 = IhB100 748 108 := (congrFun (congrFun ehB108 748) 108).trans (fup_ne (by first | decide | omega))
          have t114 : IhB108 748 109 = IhB100 748 109 := (congrFun (congrFun ehB108 748) 109).trans (fup_ne (by first | decide | omega))
          have k115 := fBz_eq hB108 (a := 741) (j := 9) (by decide +kernel)
          have r118 := mR_ot ehB108 (by decide)
          refine And.intro ⟨rfl, by decide, by decide⟩ ?_
          refine And.intro ⟨rfl, by decide, by decide⟩ ?_
          refine fload rL_741_741_531_853_14_0 h0 hB108 (by omega) ?_
          intro z116 lz116 uz116 qz116
          have v133 := mL_r (i0 := 531) (i1 := 853) (m := 14) (q := 0) (by decide +kernel) qz116 (by omega) rfl
          rw [r118, r103, r79, r54, r39] at v133
          refine Exists.intro xm_246 (And.intro mi_246 (And.intro ⟨rfl, rfl, rfl, rfl⟩ (And.intro rfl ?_)))
          refine fcallp hB108 (ct_M_peopleIn_76ab1 (fBz h0 hB108) (by first | exact ⟨lz116, uz116⟩ | omega)) ?_
          rintro _ ⟨z117, rfl, hz117, g0z117⟩
          try rw [r118, r103, r79, r54, r39] at g0z117
          refine fstore1 rS_748_748_0_127_1_0 (fzs_sub (by decide +kernel) hW) ⟨by decide, by decide⟩ (by first | exact ⟨by decide, by decide⟩ | omega) (by first | exact ⟨Int.le_trans (by decide) hz117.1, Int.le_trans hz117.2 (by decide)⟩ | omega) ?_
          intro IhB118 ehB118 hB118
          have t119 := fup_self ehB118
          have t120 : IhB118 748 102 = IhB108 748 102 := (congrFun (congrFun ehB118 748) 102).trans (fup_ne (by first | decide | omega))
          have t121 : IhB118 748 103 = IhB108 748 103 := (congrFun (congrFun ehB118 748) 103).trans (fup_ne (by first | decide | omega))
          have t122 : IhB118 748 107 = IhB108 748 107 := (congrFun (congrFun ehB118 748) 107).trans (fup_ne (by first | decide | omega))
          have t123 : IhB118 748 108 = IhB108 748 108 := (congrFun (congrFun ehB118 748) 108).trans (fup_ne (by first | decide | omega))
          have t124 : IhB118 748 109 = IhB108 748 109 := (congrFun (congrFun ehB118 748) 109).trans (fup_ne (by first | decide | omega))
          have t125 := fup_at ehB118 112 (by first | rfl | omega)
          have k126 := fBz_eq hB118 (a := 741) (j := 9) (by decide +kernel)
          have r137 := mR_ot ehB118 (by decide)
          have eL : mLw 741 IhB118 = mLw 741 I := (mLw_fr (fFr_of hB118) (by decide +kernel))
          have eQ : mR IhB118 = mR I := mR_fr (fFr_of hB118) (by decide +kernel)
          refine And.intro (by first | exact fi_ ha1.1 ha1.2 rfl | omega) (And.intro ?_ ?_)
          · intro c127
            refine Exists.intro xm_259 (And.intro mi_259 (And.intro ⟨rfl, rfl, rfl, rfl⟩ (And.intro rfl ?_)))
            refine fcall _ h0 (fzs_sub (by decide +kernel) hW) hB118 (ct_M_worked_0bc29 (fBz h0 hB118) (by first | exact ⟨Int.le_trans (by decide) (Int.le_trans (Int.le_refl _) c127), ha1.2⟩ | omega) (sI_keep hp0 h0 hB118 (by decide +kernel)) (by omega) (by rw [eL]; exact hp2) (okE_fr (fFr_of hB118) (by decide +kernel) hp3) (by rw [eL]; show x1 < I 741 9; omega)) ?_
            rintro IhB129 _ hB129 fhB129 ⟨z128, rfl, hz128, g0z128⟩
            have k130 := fBz_eq hB129 (a := 741) (j := 9) (by decide +kernel)
            have r155 := mR_fr fhB129 (by decide +kernel)
            refine And.intro (True.intro) ?_
            exact ⟨_, rfl, (by first | exact ⟨hz128.1, hz128.2⟩ | omega), (by exfalso; omega), (mR_fr (fFr_of hB129) (by decide +kernel))⟩
          · intro c131
            refine And.intro ⟨rfl, by decide, by decide⟩ ?_
            refine fload rL_741_741_532_854_14_0 h0 hB118 (by omega) ?_
            intro z132 lz132 uz132 qz132
            have v149 := mL_r (i0 := 532) (i1 := 854) (m := 14) (q := 0) (by decide +kernel) qz132 (by omega) rfl
            rw [r137, r118, r103, r79, r54, r39] at v149
            refine And.intro (True.intro) ?_
            exact ⟨_, rfl, (by first | exact ⟨Int.le_trans (by decide) lz132, Int.le_trans uz132 (by decide)⟩ | omega), (by exfalso; omega), (mR_fr (fFr_of hB118) (by decide +kernel))⟩
        · intro c133
          refine And.intro ⟨rfl, by decide, by decide⟩ ?_
          refine fload rL_741_741_535_857_14_0 h0 hB93 (by omega) ?_
          intro z134 lz134 uz134 qz134
          have v98 := mL_r (i0 := 535) (i1 := 857) (m := 14) (q := 0) (by decide +kernel) qz134 (by omega) rfl
          rw [r79, r54, r39] at v98
          refine fstore1 rS_748_748_0_127_1_0 (fzs_sub (by decide +kernel) hW) ⟨by decide, by decide⟩ (by first | exact ⟨by decide, by decide⟩ | omega) (by first | exact ⟨Int.le_trans (by decide) lz134, Int.le_trans uz134 (by decide)⟩ | omega) ?_
          intro IhB135 ehB135 hB135
          have t136 := fup_self ehB135
          have t137 : IhB135 748 103 = IhB93 748 103 := (congrFun (congrFun ehB135 748) 103).trans (fup_ne (by first | decide | omega))
          have t138 : IhB135 748 107 = IhB93 748 107 := (congrFun (congrFun ehB135 748) 107).trans (fup_ne (by first | decide | omega))
          have t139 := fup_at ehB135 108 (by first | rfl | omega)
          have t140 : IhB135 748 109 = IhB93 748 109 := (congrFun (congrFun ehB135 748) 109).trans (fup_ne (by first | decide | omega))
          have k141 := fBz_eq hB135 (a := 741) (j := 9) (by decide +kernel)
          have r103 := mR_ot ehB135 (by decide)
          refine And.intro ⟨rfl, by decide, by decide⟩ ?_
          refine And.intro ⟨rfl, by decide, by decide⟩ ?_
          refine fload rL_741_741_534_856_14_0 h0 hB135 (by omega) ?_
          intro z142 lz142 uz142 qz142
          have v117 := mL_r (i0 := 534) (i1 := 856) (m := 14) (q := 0) (by decide +kernel) qz142 (by omega) rfl
          rw [r103, r79, r54, r39] at v117
          refine fstore1 rS_748_748_0_127_1_0 (fzs_sub (by decide +kernel) hW) ⟨by decide, by decide⟩ (by first | exact ⟨by decide, by decide⟩ | omega) (by first | exact ⟨Int.le_trans (by decide) lz142, Int.le_trans uz142 (by decide)⟩ | omega) ?_
          intro IhB143 ehB143 hB143
          have t144 := fup_self ehB143
          have t145 := fup_at ehB143 102 (by first | rfl | omega)
          have t146 : IhB143 748 103 = IhB135 748 103 := (congrFun (congrFun ehB143 748) 103).trans (fup_ne (by first | decide | omega))
          have t147 : IhB143 748 107 = IhB135 748 107 := (congrFun (congrFun ehB143 748) 107).trans (fup_ne (by first | decide | omega))
          have t148 : IhB143 748 108 = IhB135 748 108 := (congrFun (congrFun ehB143 748) 108).trans (fup_ne (by first | decide | omega))
          have t149 : IhB143 748 109 = IhB135 748 109 := (congrFun (congrFun ehB143 748) 109).trans (fup_ne (by first | decide | omega))
          have k150 := fBz_eq hB143 (a := 741) (j := 9) (by decide +kernel)
          have r118 := mR_ot ehB143 (by decide)
          refine And.intro ⟨rfl, by decide, by decide⟩ ?_
          refine And.intro ⟨rfl, by decide, by decide⟩ ?_
          refine fload rL_741_741_531_853_14_0 h0 hB143 (by omega) ?_
          intro z151 lz151 uz151 qz151
          have v133 := mL_r (i0 := 531) (i1 := 853) (m := 14) (q := 0) (by decide +kernel) qz151 (by omega) rfl
          rw [r118, r103, r79, r54, r39] at v133
          refine Exists.intro xm_246 (And.intro mi_246 (And.intro ⟨rfl, rfl, rfl, rfl⟩ (And.intro rfl ?_)))
          refine fcallp hB143 (ct_M_peopleIn_76ab1 (fBz h0 hB143) (by first | exact ⟨lz151, uz151⟩ | omega)) ?_
          rintro _ ⟨z152, rfl, hz152, g0z152⟩
          try rw [r118, r103, r79, r54, r39] at g0z152
          refine fstore1 rS_748_748_0_127_1_0 (fzs_sub (by decide +kernel) hW) ⟨by decide, by decide⟩ (by first | exact ⟨by decide, by decide⟩ | omega) (by first | exact ⟨Int.le_trans (by decide) hz152.1, Int.le_trans hz152.2 (by decide)⟩ | omega) ?_
          intro IhB153 ehB153 hB153
          have t154 := fup_self ehB153
          have t155 : IhB153 748 102 = IhB143 748 102 := (congrFun (congrFun ehB153 748) 102).trans (fup_ne (by first | decide | omega))
          have t156 : IhB153 748 103 = IhB143 748 103 := (congrFun (congrFun ehB153 748) 103).trans (fup_ne (by first | decide | omega))
          have t157 : IhB153 748 107 = IhB143 748 107 := (congrFun (congrFun ehB153 748) 107).trans (fup_ne (by first | decide | omega))
          have t158 : IhB153 748 108 = IhB143 748 108 := (congrFun (congrFun ehB153 748) 108).trans (fup_ne (by first | decide | omega))
          have t159 : IhB153 748 109 = IhB143 748 109 := (congrFun (congrFun ehB153 748) 109).trans (fup_ne (by first | decide | omega))
          have t160 := fup_at ehB153 112 (by first | rfl | omega)
          have k161 := fBz_eq hB153 (a := 741) (j := 9) (by decide +kernel)
          have r137 := mR_ot ehB153 (by decide)
          have eL : mLw 741 IhB153 = mLw 741 I := (mLw_fr (fFr_of hB153) (by decide +kernel))
          have eQ : mR IhB153 = mR I := mR_fr (fFr_of hB153) (by decide +kernel)
          refine And.intro (by first | exact fi_ ha1.1 ha1.2 rfl | omega) (And.intro ?_ ?_)
          · intro c162
            refine Exists.intro xm_259 (And.intro mi_259 (And.intro ⟨rfl, rfl, rfl, rfl⟩ (And.intro rfl ?_)))
            refine fcall _ h0 (fzs_sub (by decide +kernel) hW) hB153 (ct_M_worked_0bc29 (fBz h0 hB153) (by first | exact ⟨Int.le_trans (by decide) (Int.le_trans (Int.le_refl _) c162), ha1.2⟩ | omega) (sI_keep hp0 h0 hB153 (by decide +kernel)) (by omega) (by rw [eL]; exact hp2) (okE_fr (fFr_of hB153) (by decide +kernel) hp3) (by rw [eL]; show x1 < I 741 9; omega)) ?_
            rintro IhB164 _ hB164 fhB164 ⟨z163, rfl, hz163, g0z163⟩
            have k165 := fBz_eq hB164 (a := 741) (j := 9) (by decide +kernel)
            have r155 := mR_fr fhB164 (by decide +kernel)
            refine And.intro (True.intro) ?_
            exact ⟨_, rfl, (by first | exact ⟨hz163.1, hz163.2⟩ | omega), (by exfalso; omega), (mR_fr (fFr_of hB164) (by decide +kernel))⟩
          · intro c166
            refine And.intro ⟨rfl, by decide, by decide⟩ ?_
            refine fload rL_741_741_532_854_14_0 h0 hB153 (by omega) ?_
            intro z167 lz167 uz167 qz167
            have v149 := mL_r (i0 := 532) (i1 := 854) (m := 14) (q := 0) (by decide +kernel) qz167 (by omega) rfl
            rw [r137, r118, r103, r79, r54, r39] at v149
            refine And.intro (True.intro) ?_
            exact ⟨_, rfl, (by first | exact ⟨Int.le_trans (by decide) lz167, Int.le_trans uz167 (by decide)⟩ | omega), (by exfalso; omega), (mR_fr (fFr_of hB153) (by decide +kernel))⟩
    · intro c168
      refine And.intro ⟨rfl, by decide, by decide⟩ ?_
      refine And.intro ⟨rfl, by decide, by decide⟩ ?_
      refine fload rL_741_741_530_852_14_0 h0 hB0 (by omega) ?_
      intro z169 lz169 uz169 qz169
      have v38 := mL_r (i0 := 530) (i1 := 852) (m := 14) (q := 0) (by decide +kernel) qz169 (by omega) rfl
      refine fstore1 rS_748_748_0_127_1_0 (fzs_sub (by decide +kernel) hW) ⟨by decide, by decide⟩ (by first | exact ⟨by decide, by decide⟩ | omega) (by first | exact ⟨Int.le_trans (by decide) lz169, Int.le_trans uz169 (by decide)⟩ | omega) ?_
      intro IhB170 ehB170 hB170
      have t171 := fup_self ehB170
      have t172 := fup_at ehB170 107 (by first | rfl | omega)
      have k173 := fBz_eq hB170 (a := 741) (j := 9) (by decide +kernel)
      have r39 := mR_ot ehB170 (by decide)
      refine And.intro ⟨rfl, by decide, by decide⟩ ?_
      refine And.intro ⟨rfl, by decide, by decide⟩ ?_
      refine fload rL_741_741_532_854_14_0 h0 hB170 (by omega) ?_
      intro z174 lz174 uz174 qz174
      have v53 := mL_r (i0 := 532) (i1 := 854) (m := 14) (q := 0) (by decide +kernel) qz174 (by omega) rfl
      rw [r39] at v53
      refine fstore1 rS_748_748_0_127_1_0 (fzs_sub (by decide +kernel) hW) ⟨by decide, by decide⟩ (by first | exact ⟨by decide, by decide⟩ | omega) (by first | exact ⟨Int.le_trans (by decide) lz174, Int.le_trans uz174 (by decide)⟩ | omega) ?_
      intro IhB175 ehB175 hB175
      have t176 := fup_self ehB175
      have t177 : IhB175 748 107 = IhB170 748 107 := (congrFun (congrFun ehB175 748) 107).trans (fup_ne (by first | decide | omega))
      have t178 := fup_at ehB175 109 (by first | rfl | omega)
      have k179 := fBz_eq hB175 (a := 741) (j := 9) (by decide +kernel)
      have r54 := mR_ot ehB175 (by decide)
      refine And.intro ⟨rfl, by decide, by decide⟩ ?_
      refine And.intro (by first | exact ⟨by decide, by decide⟩ | omega) (And.intro ?_ ?_)
      · intro c180
        refine fstore1 rS_748_748_0_127_1_0 (fzs_sub (by decide +kernel) hW) ⟨by decide, by decide⟩ (by first | exact ⟨by decide, by decide⟩ | omega) (by omega) ?_
        intro IhB181 ehB181 hB181
        have t182 := fup_self ehB181
        have t183 := fup_at ehB181 103 (by first | rfl | omega)
        have t184 : IhB181 748 107 = IhB175 748 107 := (congrFun (congrFun ehB181 748) 107).trans (fup_ne (by first | decide | omega))
        have t185 : IhB181 748 109 = IhB175 748 109 := (congrFun (congrFun ehB181 748) 109).trans (fup_ne (by first | decide | omega))
        have k186 := fBz_eq hB181 (a := 741) (j := 9) (by decide +kernel)
        have r79 := mR_ot ehB181 (by decide)
        refine And.intro ⟨rfl, by decide, by decide⟩ ?_
        refine And.intro (by first | exact ⟨by decide, by decide⟩ | omega) (And.intro ?_ ?_)
        · intro c187
          refine fstore1 rS_748_748_0_127_1_0 (fzs_sub (by decide +kernel) hW) ⟨by decide, by decide⟩ (by first | exact ⟨by decide, by decide⟩ | omega) (by omega) ?_
          intro IhB188 ehB188 hB188
          have t189 := fup_self ehB188
          have t190 : IhB188 748 103 = IhB181 748 103 := (congrFun (congrFun ehB188 748) 103).trans (fup_ne (by first | decide | omega))
          have t191 : IhB188 748 107 = IhB181 748 107 := (congrFun (congrFun ehB188 748) 107).trans (fup_ne (by first | decide | omega))
          have t192 := fup_at ehB188 108 (by first | rfl | omega)
          have t193 : IhB188 748 109 = IhB181 748 109 := (congrFun (congrFun ehB188 748) 109).trans (fup_ne (by first | decide | omega))
          have k194 := fBz_eq hB188 (a := 741) (j := 9) (by decide +kernel)
          have r103 := mR_ot ehB188 (by decide)
          refine And.intro ⟨rfl, by decide, by decide⟩ ?_
          refine And.intro ⟨rfl, by decide, by decide⟩ ?_
          refine fload rL_741_741_534_856_14_0 h0 hB188 (by omega) ?_
          intro z195 lz195 uz195 qz195
          have v117 := mL_r (i0 := 534) (i1 := 856) (m := 14) (q := 0) (by decide +kernel) qz195 (by omega) rfl
          rw [r103, r79, r54, r39] at v117
          refine fstore1 rS_748_748_0_127_1_0 (fzs_sub (by decide +kernel) hW) ⟨by decide, by decide⟩ (by first | exact ⟨by decide, by decide⟩ | omega) (by first | exact ⟨Int.le_trans (by decide) lz195, Int.le_trans uz195 (by decide)⟩ | omega) ?_
          intro IhB196 ehB196 hB196
          have t197 := fup_self ehB196
          have t198 := fup_at ehB196 102 (by first | rfl | omega)
          have t199 : IhB196 748 103 = IhB188 748 103 := (congrFun (congrFun ehB196 748) 103).trans (fup_ne (by first | decide | omega))
          have t200 : IhB196 748 107 = IhB188 748 107 := (congrFun (congrFun ehB196 748) 107).trans (fup_ne (by first | decide | omega))
          have t201 : IhB196 748 108 = IhB188 748 108 := (congrFun (congrFun ehB196 748) 108).trans (fup_ne (by first | decide | omega))
          have t202 : IhB196 748 109 = IhB188 748 109 := (congrFun (congrFun ehB196 748) 109).trans (fup_ne (by first | decide | omega))
          have k203 := fBz_eq hB196 (a := 741) (j := 9) (by decide +kernel)
          have r118 := mR_ot ehB196 (by decide)
          refine And.intro ⟨rfl, by decide, by decide⟩ ?_
          refine And.intro ⟨rfl, by decide, by decide⟩ ?_
          refine fload rL_741_741_531_853_14_0 h0 hB196 (by omega) ?_
          intro z204 lz204 uz204 qz204
          have v133 := mL_r (i0 := 531) (i1 := 853) (m := 14) (q := 0) (by decide +kernel) qz204 (by omega) rfl
          rw [r118, r103, r79, r54, r39] at v133
          refine Exists.intro xm_246 (And.intro mi_246 (And.intro ⟨rfl, rfl, rfl, rfl⟩ (And.intro rfl ?_)))
          refine fcallp hB196 (ct_M_peopleIn_76ab1 (fBz h0 hB196) (by first | exact ⟨lz204, uz204⟩ | omega)) ?_
          rintro _ ⟨z205, rfl, hz205, g0z205⟩
          try rw [r118, r103, r79, r54, r39] at g0z205
          refine fstore1 rS_748_748_0_127_1_0 (fzs_sub (by decide +kernel) hW) ⟨by decide, by decide⟩ (by first | exact ⟨by decide, by decide⟩ | omega) (by first | exact ⟨Int.le_trans (by decide) hz205.1, Int.le_trans hz205.2 (by decide)⟩ | omega) ?_
          intro IhB206 ehB206 hB206
          have t207 := fup_self ehB206
          have t208 : IhB206 748 102 = IhB196 748 102 := (congrFun (congrFun ehB206 748) 102).trans (fup_ne (by first | decide | omega))
          have t209 : IhB206 748 103 = IhB196 748 103 := (congrFun (congrFun ehB206 748) 103).trans (fup_ne (by first | decide | omega))
          have t210 : IhB206 748 107 = IhB196 748 107 := (congrFun (congrFun ehB206 748) 107).trans (fup_ne (by first | decide | omega))
          have t211 : IhB206 748 108 = IhB196 748 108 := (congrFun (congrFun ehB206 748) 108).trans (fup_ne (by first | decide | omega))
          have t212 : IhB206 748 109 = IhB196 748 109 := (congrFun (congrFun ehB206 748) 109).trans (fup_ne (by first | decide | omega))
          have t213 := fup_at ehB206 112 (by first | rfl | omega)
          have k214 := fBz_eq hB206 (a := 741) (j := 9) (by decide +kernel)
          have r137 := mR_ot ehB206 (by decide)
          have eL : mLw 741 IhB206 = mLw 741 I := (mLw_fr (fFr_of hB206) (by decide +kernel))
          have eQ : mR IhB206 = mR I := mR_fr (fFr_of hB206) (by decide +kernel)
          refine And.intro (by first | exact fi_ ha1.1 ha1.2 rfl | omega) (And.intro ?_ ?_)
          · intro c215
            refine Exists.intro xm_259 (And.intro mi_259 (And.intro ⟨rfl, rfl, rfl, rfl⟩ (And.intro rfl ?_)))
            refine fcall _ h0 (fzs_sub (by decide +kernel) hW) hB206 (ct_M_worked_0bc29 (fBz h0 hB206) (by first | exact ⟨Int.le_trans (by decide) (Int.le_trans (Int.le_refl _) c215), ha1.2⟩ | omega) (sI_keep hp0 h0 hB206 (by decide +kernel)) (by omega) (by rw [eL]; exact hp2) (okE_fr (fFr_of hB206) (by decide +kernel) hp3) (by rw [eL]; show x1 < I 741 9; omega)) ?_
            rintro IhB217 _ hB217 fhB217 ⟨z216, rfl, hz216, g0z216⟩
            have k218 := fBz_eq hB217 (a := 741) (j := 9) (by decide +kernel)
            have r155 := mR_fr fhB217 (by decide +kernel)
            refine And.intro (True.intro) ?_
            exact ⟨_, rfl, (by first | exact ⟨hz216.1, hz216.2⟩ | omega), (by exfalso; omega), (mR_fr (fFr_of hB217) (by decide +kernel))⟩
          · intro c219
            refine And.intro ⟨rfl, by decide, by decide⟩ ?_
            refine fload rL_741_741_532_854_14_0 h0 hB206 (by omega) ?_
            intro z220 lz220 uz220 qz220
            have v149 := mL_r (i0 := 532) (i1 := 854) (m := 14) (q := 0) (by decide +kernel) qz220 (by omega) rfl
            rw [r137, r118, r103, r79, r54, r39] at v149
            refine And.intro (True.intro) ?_
            exact ⟨_, rfl, (by first | exact ⟨Int.le_trans (by decide) lz220, Int.le_trans uz220 (by decide)⟩ | omega), (by exfalso; omega), (mR_fr (fFr_of hB206) (by decide +kernel))⟩
        · intro c221
          refine And.intro ⟨rfl, by decide, by decide⟩ ?_
          refine fload rL_741_741_535_857_14_0 h0 hB181 (by omega) ?_
          intro z222 lz222 uz222 qz222
          have v98 := mL_r (i0 := 535) (i1 := 857) (m := 14) (q := 0) (by decide +kernel) qz222 (by omega) rfl
          rw [r79, r54, r39] at v98
          refine fstore1 rS_748_748_0_127_1_0 (fzs_sub (by decide +kernel) hW) ⟨by decide, by decide⟩ (by first | exact ⟨by decide, by decide⟩ | omega) (by first | exact ⟨Int.le_trans (by decide) lz222, Int.le_trans uz222 (by decide)⟩ | omega) ?_
          intro IhB223 ehB223 hB223
          have t224 := fup_self ehB223
          have t225 : IhB223 748 103 = IhB181 748 103 := (congrFun (congrFun ehB223 748) 103).trans (fup_ne (by first | decide | omega))
          have t226 : IhB223 748 107 = IhB181 748 107 := (congrFun (congrFun ehB223 748) 107).trans (fup_ne (by first | decide | omega))
          have t227 := fup_at ehB223 108 (by first | rfl | omega)
          have t228 : IhB223 748 109 = IhB181 748 109 := (congrFun (congrFun ehB223 748) 109).trans (fup_ne (by first | decide | omega))
          have k229 := fBz_eq hB223 (a := 741) (j := 9) (by decide +kernel)
          have r103 := mR_ot ehB223 (by decide)
          refine And.intro ⟨rfl, by decide, by decide⟩ ?_
          refine And.intro ⟨rfl, by decide, by decide⟩ ?_
          refine fload rL_741_741_534_856_14_0 h0 hB223 (by omega) ?_
          intro z230 lz230 uz230 qz230
          have v117 := mL_r (i0 := 534) (i1 := 856) (m := 14) (q := 0) (by decide +kernel) qz230 (by omega) rfl
          rw [r103, r79, r54, r39] at v117
          refine fstore1 rS_748_748_0_127_1_0 (fzs_sub (by decide +kernel) hW) ⟨by decide, by decide⟩ (by first | exact ⟨by decide, by decide⟩ | omega) (by first | exact ⟨Int.le_trans (by decide) lz230, Int.le_trans uz230 (by decide)⟩ | omega) ?_
          intro IhB231 ehB231 hB231
          have t232 := fup_self ehB231
          have t233 := fup_at ehB231 102 (by first | rfl | omega)
          have t234 : IhB231 748 103 = IhB223 748 103 := (congrFun (congrFun ehB231 748) 103).trans (fup_ne (by first | decide | omega))
          have t235 : IhB231 748 107 = IhB223 748 107 := (congrFun (congrFun ehB231 748) 107).trans (fup_ne (by first | decide | omega))
          have t236 : IhB231 748 108 = IhB223 748 108 := (congrFun (congrFun ehB231 748) 108).trans (fup_ne (by first | decide | omega))
          have t237 : IhB231 748 109 = IhB223 748 109 := (congrFun (congrFun ehB231 748) 109).trans (fup_ne (by first | decide | omega))
          have k238 := fBz_eq hB231 (a := 741) (j := 9) (by decide +kernel)
          have r118 := mR_ot ehB231 (by decide)
          refine And.intro ⟨rfl, by decide, by decide⟩ ?_
          refine And.intro ⟨rfl, by decide, by decide⟩ ?_
          refine fload rL_741_741_531_853_14_0 h0 hB231 (by omega) ?_
          intro z239 lz239 uz239 qz239
          have v133 := mL_r (i0 := 531) (i1 := 853) (m := 14) (q := 0) (by decide +kernel) qz239 (by omega) rfl
          rw [r118, r103, r79, r54, r39] at v133
          refine Exists.intro xm_246 (And.intro mi_246 (And.intro ⟨rfl, rfl, rfl, rfl⟩ (And.intro rfl ?_)))
          refine fcallp hB231 (ct_M_peopleIn_76ab1 (fBz h0 hB231) (by first | exact ⟨lz239, uz239⟩ | omega)) ?_
          rintro _ ⟨z240, rfl, hz240, g0z240⟩
          try rw [r118, r103, r79, r54, r39] at g0z240
          refine fstore1 rS_748_748_0_127_1_0 (fzs_sub (by decide +kernel) hW) ⟨by decide, by decide⟩ (by first | exact ⟨by decide, by decide⟩ | omega) (by first | exact ⟨Int.le_trans (by decide) hz240.1, Int.le_trans hz240.2 (by decide)⟩ | omega) ?_
          intro IhB241 ehB241 hB241
          have t242 := fup_self ehB241
          have t243 : IhB241 748 102 = IhB231 748 102 := (congrFun (congrFun ehB241 748) 102).trans (fup_ne (by first | decide | omega))
          have t244 : IhB241 748 103 = IhB231 748 103 := (congrFun (congrFun ehB241 748) 103).trans (fup_ne (by first | decide | omega))
          have t245 : IhB241 748 107 = IhB231 748 107 := (congrFun (congrFun ehB241 748) 107).trans (fup_ne (by first | decide | omega))
          have t246 : IhB241 748 108 = IhB231 748 108 := (congrFun (congrFun ehB241 748) 108).trans (fup_ne (by first | decide | omega))
          have t247 : IhB241 748 109 = IhB231 748 109 := (congrFun (congrFun ehB241 748) 109).trans (fup_ne (by first | decide | omega))
          have t248 := fup_at ehB241 112 (by first | rfl | omega)
          have k249 := fBz_eq hB241 (a := 741) (j := 9) (by decide +kernel)
          have r137 := mR_ot ehB241 (by decide)
          have eL : mLw 741 IhB241 = mLw 741 I := (mLw_fr (fFr_of hB241) (by decide +kernel))
          have eQ : mR IhB241 = mR I := mR_fr (fFr_of hB241) (by decide +kernel)
          refine And.intro (by first | exact fi_ ha1.1 ha1.2 rfl | omega) (And.intro ?_ ?_)
          · intro c250
            refine Exists.intro xm_259 (And.intro mi_259 (And.intro ⟨rfl, rfl, rfl, rfl⟩ (And.intro rfl ?_)))
            refine fcall _ h0 (fzs_sub (by decide +kernel) hW) hB241 (ct_M_worked_0bc29 (fBz h0 hB241) (by first | exact ⟨Int.le_trans (by decide) (Int.le_trans (Int.le_refl _) c250), ha1.2⟩ | omega) (sI_keep hp0 h0 hB241 (by decide +kernel)) (by omega) (by rw [eL]; exact hp2) (okE_fr (fFr_of hB241) (by decide +kernel) hp3) (by rw [eL]; show x1 < I 741 9; omega)) ?_
            rintro IhB252 _ hB252 fhB252 ⟨z251, rfl, hz251, g0z251⟩
            have k253 := fBz_eq hB252 (a := 741) (j := 9) (by decide +kernel)
            have r155 := mR_fr fhB252 (by decide +kernel)
            refine And.intro (True.intro) ?_
            exact ⟨_, rfl, (by first | exact ⟨hz251.1, hz251.2⟩ | omega), (by exfalso; omega), (mR_fr (fFr_of hB252) (by decide +kernel))⟩
          · intro c254
            refine And.intro ⟨rfl, by decide, by decide⟩ ?_
            refine fload rL_741_741_532_854_14_0 h0 hB241 (by omega) ?_
            intro z255 lz255 uz255 qz255
            have v149 := mL_r (i0 := 532) (i1 := 854) (m := 14) (q := 0) (by decide +kernel) qz255 (by omega) rfl
            rw [r137, r118, r103, r79, r54, r39] at v149
            refine And.intro (True.intro) ?_
            exact ⟨_, rfl, (by first | exact ⟨Int.le_trans (by decide) lz255, Int.le_trans uz255 (by decide)⟩ | omega), (by exfalso; omega), (mR_fr (fFr_of hB241) (by decide +kernel))⟩
      · intro c256
        refine And.intro ⟨rfl, by decide, by decide⟩ ?_
        refine fload rL_741_741_536_858_14_0 h0 hB175 (by omega) ?_
        intro z257 lz257 uz257 qz257
        have v74 := mL_r (i0 := 536) (i1 := 858) (m := 14) (q := 0) (by decide +kernel) qz257 (by omega) rfl
        rw [r54, r39] at v74
        refine fstore1 rS_748_748_0_127_1_0 (fzs_sub (by decide +kernel) hW) ⟨by decide, by decide⟩ (by first | exact ⟨by decide, by decide⟩ | omega) (by first | exact ⟨Int.le_trans (by decide) lz257, Int.le_trans uz257 (by decide)⟩ | omega) ?_
        intro IhB258 ehB258 hB258
        have t259 := fup_self ehB258
        have t260 := fup_at ehB258 103 (by first | rfl | omega)
        have t261 : IhB258 748 107 = IhB175 748 107 := (congrFun (congrFun ehB258 748) 107).trans (fup_ne (by first | decide | omega))
        have t262 : IhB258 748 109 = IhB175 748 109 := (congrFun (congrFun ehB258 748) 109).trans (fup_ne (by first | decide | omega))
        have k263 := fBz_eq hB258 (a := 741) (j := 9) (by decide +kernel)
        have r79 := mR_ot ehB258 (by decide)
        refine And.intro ⟨rfl, by decide, by decide⟩ ?_
        refine And.intro (by first | exact ⟨by decide, by decide⟩ | omega) (And.intro ?_ ?_)
        · intro c264
          refine fstore1 rS_748_748_0_127_1_0 (fzs_sub (by decide +kernel) hW) ⟨by decide, by decide⟩ (by first | exact ⟨by decide, by decide⟩ | omega) (by omega) ?_
          intro IhB265 ehB265 hB265
          have t266 := fup_self ehB265
          have t267 : IhB265 748 103 = IhB258 748 103 := (congrFun (congrFun ehB265 748) 103).trans (fup_ne (by first | decide | omega))
          have t268 : IhB265 748 107 = IhB258 748 107 := (congrFun (congrFun ehB265 748) 107).trans (fup_ne (by first | decide | omega))
          have t269 := fup_at ehB265 108 (by first | rfl | omega)
          have t270 : IhB265 748 109 = IhB258 748 109 := (congrFun (congrFun ehB265 748) 109).trans (fup_ne (by first | decide | omega))
          have k271 := fBz_eq hB265 (a := 741) (j := 9) (by decide +kernel)
          have r103 := mR_ot ehB265 (by decide)
          refine And.intro ⟨rfl, by decide, by decide⟩ ?_
          refine And.intro ⟨rfl, by decide, by decide⟩ ?_
          refine fload rL_741_741_534_856_14_0 h0 hB265 (by omega) ?_
          intro z272 lz272 uz272 qz272
          have v117 := mL_r (i0 := 534) (i1 := 856) (m := 14) (q := 0) (by decide +kernel) qz272 (by omega) rfl
          rw [r103, r79, r54, r39] at v117
          refine fstore1 rS_748_748_0_127_1_0 (fzs_sub (by decide +kernel) hW) ⟨by decide, by decide⟩ (by first | exact ⟨by decide, by decide⟩ | omega) (by first | exact ⟨Int.le_trans (by decide) lz272, Int.le_trans uz272 (by decide)⟩ | omega) ?_
          intro IhB273 ehB273 hB273
          have t274 := fup_self ehB273
          have t275 := fup_at ehB273 102 (by first | rfl | omega)
          have t276 : IhB273 748 103 = IhB265 748 103 := (congrFun (congrFun ehB273 748) 103).trans (fup_ne (by first | decide | omega))
          have t277 : IhB273 748 107 = IhB265 748 107 := (congrFun (congrFun ehB273 748) 107).trans (fup_ne (by first | decide | omega))
          have t278 : IhB273 748 108 = IhB265 748 108 := (congrFun (congrFun ehB273 748) 108).trans (fup_ne (by first | decide | omega))
          have t279 : IhB273 748 109 = IhB265 748 109 := (congrFun (congrFun ehB273 748) 109).trans (fup_ne (by first | decide | omega))
          have k280 := fBz_eq hB273 (a := 741) (j := 9) (by decide +kernel)
          have r118 := mR_ot ehB273 (by decide)
          refine And.intro ⟨rfl, by decide, by decide⟩ ?_
          refine And.intro ⟨rfl, by decide, by decide⟩ ?_
          refine fload rL_741_741_531_853_14_0 h0 hB273 (by omega) ?_
          intro z281 lz281 uz281 qz281
          have v133 := mL_r (i0 := 531) (i1 := 853) (m := 14) (q := 0) (by decide +kernel) qz281 (by omega) rfl
          rw [r118, r103, r79, r54, r39] at v133
          refine Exists.intro xm_246 (And.intro mi_246 (And.intro ⟨rfl, rfl, rfl, rfl⟩ (And.intro rfl ?_)))
          refine fcallp hB273 (ct_M_peopleIn_76ab1 (fBz h0 hB273) (by first | exact ⟨lz281, uz281⟩ | omega)) ?_
          rintro _ ⟨z282, rfl, hz282, g0z282⟩
          try rw [r118, r103, r79, r54, r39] at g0z282
          refine fstore1 rS_748_748_0_127_1_0 (fzs_sub (by decide +kernel) hW) ⟨by decide, by decide⟩ (by first | exact ⟨by decide, by decide⟩ | omega) (by first | exact ⟨Int.le_trans (by decide) hz282.1, Int.le_trans hz282.2 (by decide)⟩ | omega) ?_
          intro IhB283 ehB283 hB283
          have t284 := fup_self ehB283
          have t285 : IhB283 748 102 = IhB273 748 102 := (congrFun (congrFun ehB283 748) 102).trans (fup_ne (by first | decide | omega))
          have t286 : IhB283 748 103 = IhB273 748 103 := (congrFun (congrFun ehB283 748) 103).trans (fup_ne (by first | decide | omega))
          have t287 : IhB283 748 107 = IhB273 748 107 := (congrFun (congrFun ehB283 748) 107).trans (fup_ne (by first | decide | omega))
          have t288 : IhB283 748 108 = IhB273 748 108 := (congrFun (congrFun ehB283 748) 108).trans (fup_ne (by first | decide | omega))
          have t289 : IhB283 748 109 = IhB273 748 109 := (congrFun (congrFun ehB283 748) 109).trans (fup_ne (by first | decide | omega))
          have t290 := fup_at ehB283 112 (by first | rfl | omega)
          have k291 := fBz_eq hB283 (a := 741) (j := 9) (by decide +kernel)
          have r137 := mR_ot ehB283 (by decide)
          have eL : mLw 741 IhB283 = mLw 741 I := (mLw_fr (fFr_of hB283) (by decide +kernel))
          have eQ : mR IhB283 = mR I := mR_fr (fFr_of hB283) (by decide +kernel)
          refine And.intro (by first | exact fi_ ha1.1 ha1.2 rfl | omega) (And.intro ?_ ?_)
          · intro c292
            refine Exists.intro xm_259 (And.intro mi_259 (And.intro ⟨rfl, rfl, rfl, rfl⟩ (And.intro rfl ?_)))
            refine fcall _ h0 (fzs_sub (by decide +kernel) hW) hB283 (ct_M_worked_0bc29 (fBz h0 hB283) (by first | exact ⟨Int.le_trans (by decide) (Int.le_trans (Int.le_refl _) c292), ha1.2⟩ | omega) (sI_keep hp0 h0 hB283 (by decide +kernel)) (by omega) (by rw [eL]; exact hp2) (okE_fr (fFr_of hB283) (by decide +kernel) hp3) (by rw [eL]; show x1 < I 741 9; omega)) ?_
            rintro IhB294 _ hB294 fhB294 ⟨z293, rfl, hz293, g0z293⟩
            have k295 := fBz_eq hB294 (a := 741) (j := 9) (by decide +kernel)
            have r155 := mR_fr fhB294 (by decide +kernel)
            refine And.intro (True.intro) ?_
            exact ⟨_, rfl, (by first | exact ⟨hz293.1, hz293.2⟩ | omega), (by exfalso; omega), (mR_fr (fFr_of hB294) (by decide +kernel))⟩
          · intro c296
            refine And.intro ⟨rfl, by decide, by decide⟩ ?_
            refine fload rL_741_741_532_854_14_0 h0 hB283 (by omega) ?_
            intro z297 lz297 uz297 qz297
            have v149 := mL_r (i0 := 532) (i1 := 854) (m := 14) (q := 0) (by decide +kernel) qz297 (by omega) rfl
            rw [r137, r118, r103, r79, r54, r39] at v149
            refine And.intro (True.intro) ?_
            exact ⟨_, rfl, (by first | exact ⟨Int.le_trans (by decide) lz297, Int.le_trans uz297 (by decide)⟩ | omega), (by exfalso; omega), (mR_fr (fFr_of hB283) (by decide +kernel))⟩
        · intro c298
          refine And.intro ⟨rfl, by decide, by decide⟩ ?_
          refine fload rL_741_741_535_857_14_0 h0 hB258 (by omega) ?_
          intro z299 lz299 uz299 qz299
          have v98 := mL_r (i0 := 535) (i1 := 857) (m := 14) (q := 0) (by decide +kernel) qz299 (by omega) rfl
          rw [r79, r54, r39] at v98
          refine fstore1 rS_748_748_0_127_1_0 (fzs_sub (by decide +kernel) hW) ⟨by decide, by decide⟩ (by first | exact ⟨by decide, by decide⟩ | omega) (by first | exact ⟨Int.le_trans (by decide) lz299, Int.le_trans uz299 (by decide)⟩ | omega) ?_
          intro IhB300 ehB300 hB300
          have t301 := fup_self ehB300
          have t302 : IhB300 748 103 = IhB258 748 103 := (congrFun (congrFun ehB300 748) 103).trans (fup_ne (by first | decide | omega))
          have t303 : IhB300 748 107 = IhB258 748 107 := (congrFun (congrFun ehB300 748) 107).trans (fup_ne (by first | decide | omega))
          have t304 := fup_at ehB300 108 (by first | rfl | omega)
          have t305 : IhB300 748 109 = IhB258 748 109 := (congrFun (congrFun ehB300 748) 109).trans (fup_ne (by first | decide | omega))
          have k306 := fBz_eq hB300 (a := 741) (j := 9) (by decide +kernel)
          have r103 := mR_ot ehB300 (by decide)
          refine And.intro ⟨rfl, by decide, by decide⟩ ?_
          refine And.intro ⟨rfl, by decide, by decide⟩ ?_
          refine fload rL_741_741_534_856_14_0 h0 hB300 (by omega) ?_
          intro z307 lz307 uz307 qz307
          have v117 := mL_r (i0 := 534) (i1 := 856) (m := 14) (q := 0) (by decide +kernel) qz307 (by omega) rfl
          rw [r103, r79, r54, r39] at v117
          refine fstore1 rS_748_748_0_127_1_0 (fzs_sub (by decide +kernel) hW) ⟨by decide, by decide⟩ (by first | exact ⟨by decide, by decide⟩ | omega) (by first | exact ⟨Int.le_trans (by decide) lz307, Int.le_trans uz307 (by decide)⟩ | omega) ?_
          intro IhB308 ehB308 hB308
          have t309 := fup_self ehB308
          have t310 := fup_at ehB308 102 (by first | rfl | omega)
          have t311 : IhB308 748 103 = IhB300 748 103 := (congrFun (congrFun ehB308 748) 103).trans (fup_ne (by first | decide | omega))
          have t312 : IhB308 748 107 = IhB300 748 107 := (congrFun (congrFun ehB308 748) 107).trans (fup_ne (by first | decide | omega))
          have t313 : IhB308 748 108 = IhB300 748 108 := (congrFun (congrFun ehB308 748) 108).trans (fup_ne (by first | decide | omega))
          have t314 : IhB308 748 109 = IhB300 748 109 := (congrFun (congrFun ehB308 748) 109).trans (fup_ne (by first | decide | omega))
          have k315 := fBz_eq hB308 (a := 741) (j := 9) (by decide +kernel)
          have r118 := mR_ot ehB308 (by decide)
          refine And.intro ⟨rfl, by decide, by decide⟩ ?_
          refine And.intro ⟨rfl, by decide, by decide⟩ ?_
          refine fload rL_741_741_531_853_14_0 h0 hB308 (by omega) ?_
          intro z316 lz316 uz316 qz316
          have v133 := mL_r (i0 := 531) (i1 := 853) (m := 14) (q := 0) (by decide +kernel) qz316 (by omega) rfl
          rw [r118, r103, r79, r54, r39] at v133
          refine Exists.intro xm_246 (And.intro mi_246 (And.intro ⟨rfl, rfl, rfl, rfl⟩ (And.intro rfl ?_)))
          refine fcallp hB308 (ct_M_peopleIn_76ab1 (fBz h0 hB308) (by first | exact ⟨lz316, uz316⟩ | omega)) ?_
          rintro _ ⟨z317, rfl, hz317, g0z317⟩
          try rw [r118, r103, r79, r54, r39] at g0z317
          refine fstore1 rS_748_748_0_127_1_0 (fzs_sub (by decide +kernel) hW) ⟨by decide, by decide⟩ (by first | exact ⟨by decide, by decide⟩ | omega) (by first | exact ⟨Int.le_trans (by decide) hz317.1, Int.le_trans hz317.2 (by decide)⟩ | omega) ?_
          intro IhB318 ehB318 hB318
          have t319 := fup_self ehB318
          have t320 : IhB318 748 102 = IhB308 748 102 := (congrFun (congrFun ehB318 748) 102).trans (fup_ne (by first | decide | omega))
          have t321 : IhB318 748 103 = IhB308 748 103 := (congrFun (congrFun ehB318 748) 103).trans (fup_ne (by first | decide | omega))
          have t322 : IhB318 748 107 = IhB308 748 107 := (congrFun (congrFun ehB318 748) 107).trans (fup_ne (by first | decide | omega))
          have t323 : IhB318 748 108 = IhB308 748 108 := (congrFun (congrFun ehB318 748) 108).trans (fup_ne (by first | decide | omega))
          have t324 : IhB318 748 109 = IhB308 748 109 := (congrFun (congrFun ehB318 748) 109).trans (fup_ne (by first | decide | omega))
          have t325 := fup_at ehB318 112 (by first | rfl | omega)
          have k326 := fBz_eq hB318 (a := 741) (j := 9) (by decide +kernel)
          have r137 := mR_ot ehB318 (by decide)
          have eL : mLw 741 IhB318 = mLw 741 I := (mLw_fr (fFr_of hB318) (by decide +kernel))
          have eQ : mR IhB318 = mR I := mR_fr (fFr_of hB318) (by decide +kernel)
          refine And.intro (by first | exact fi_ ha1.1 ha1.2 rfl | omega) (And.intro ?_ ?_)
          · intro c327
            refine Exists.intro xm_259 (And.intro mi_259 (And.intro ⟨rfl, rfl, rfl, rfl⟩ (And.intro rfl ?_)))
            refine fcall _ h0 (fzs_sub (by decide +kernel) hW) hB318 (ct_M_worked_0bc29 (fBz h0 hB318) (by first | exact ⟨Int.le_trans (by decide) (Int.le_trans (Int.le_refl _) c327), ha1.2⟩ | omega) (sI_keep hp0 h0 hB318 (by decide +kernel)) (by omega) (by rw [eL]; exact hp2) (okE_fr (fFr_of hB318) (by decide +kernel) hp3) (by rw [eL]; show x1 < I 741 9; omega)) ?_
            rintro IhB329 _ hB329 fhB329 ⟨z328, rfl, hz328, g0z328⟩
            have k330 := fBz_eq hB329 (a := 741) (j := 9) (by decide +kernel)
            have r155 := mR_fr fhB329 (by decide +kernel)
            refine And.intro (True.intro) ?_
            exact ⟨_, rfl, (by first | exact ⟨hz328.1, hz328.2⟩ | omega), (rwk_1 (w := x2) (by omega) hp4 (by omega) eL hp2 g0z328 (nmS_m eQ (pn_st ehB170 rfl) (pn_st ehB175 rfl) (pn_st ehB258 rfl) (pn_st ehB300 rfl) (pn_st ehB308 rfl) (pn_st ehB318 rfl) (gt_at v38 (by omega)) (gt_at v53 (by omega)) (skin_v (gt_at v13 (by omega)) (Or.inl ⟨by omega, rfl, gt_at v74 (by omega)⟩)) (skin_v (gt_at v13 (by omega)) (Or.inl ⟨by omega, rfl, gt_at v98 (by omega)⟩)) (gt_at v117 (by omega)) (g0z317.trans (by rw [gt_at v133 (show _ = 531 + 14 * x2 by omega)])))), (mR_fr (fFr_of hB329) (by decide +kernel))⟩
          · intro c331
            refine And.intro ⟨rfl, by decide, by decide⟩ ?_
            refine fload rL_741_741_532_854_14_0 h0 hB318 (by omega) ?_
            intro z332 lz332 uz332 qz332
            have v149 := mL_r (i0 := 532) (i1 := 854) (m := 14) (q := 0) (by decide +kernel) qz332 (by omega) rfl
            rw [r137, r118, r103, r79, r54, r39] at v149
            refine And.intro (True.intro) ?_
            exact ⟨_, rfl, (by first | exact ⟨Int.le_trans (by decide) lz332, Int.le_trans uz332 (by decide)⟩ | omega), (rwk_0 (w := x2) (by omega) hp4 (by omega) rfl v149 (by omega)), (mR_fr (fFr_of hB318) (by decide +kernel))⟩
abbrev jc_M_findShed_fb485_10 (I0 : fH) : Nat → fL → List fV → fH → Prop := fun m lv st I => ∃ (y1 : Int) (y2 : Int) (y3 : Int), lv = [(0, .inr (.inr (some 740))), (1, .inl y1), (2, .inl y2), (3, .inl y3)] ∧ st = [] ∧ ((((-1) ≤ y1 ∧ y1 ≤ 11) ∧ (0 ≤ y2 ∧ y2 ≤ 24) ∧ (0 ≤ y3 ∧ y3 ≤ 24) ∧ (y2 ≤ y3) ∧ (y1 < I 741 9) ∧ (y3 ≤ I0 741 7)) ∧ (y1 = cnT (mLw 741 I0) 2 (sHr (mR I0))) ∧ (enI (sRk (mR I0) (mLw 741 I0)) y3.toNat y2.toNat (I 751) (I 752))) ∧ m = (25 + 25 * (24 - y3) : Int).toNat
abbrev jc_M_findShed_fb485_52 (I0 : fH) : Nat → fL → List fV → fH → Prop := fun m lv st I => ∃ (y1 : Int) (y2 : Int) (y3 : Int) (y4 : Int) (y5 : Int), lv = [(0, .inr (.inr (some 740))), (1, .inl y1), (2, .inl y2), (3, .inl y3), (4, .inl y4), (5, .inl y5)] ∧ st = [] ∧ ((((-1) ≤ y1 ∧ y1 ≤ 11) ∧ (0 ≤ y2 ∧ y2 ≤ 23) ∧ (0 ≤ y3 ∧ y3 ≤ 23) ∧ (1 ≤ y4 ∧ y4 ≤ 2147483647) ∧ (0 ≤ y5 ∧ y5 ≤ 23) ∧ (1 ≤ I 741 7 ∧ I 741 7 ≤ 24) ∧ (y2 ≤ y3) ∧ (y5 ≤ y2) ∧ (y1 < I 741 9) ∧ (y3 + 1 ≤ I0 741 7)) ∧ (y1 = cnT (mLw 741 I0) 2 (sHr (mR I0))) ∧ (shW (sRk (mR I0) (mLw 741 I0)) y3.toNat y2.toNat y5.toNat y4 (I 751) (I 752)) ∧ (y4 = (sRk (mR I0) (mLw 741 I0)) y3.toNat)) ∧ m = (1 + 25 * (24 - y3) + 1 * (y5 - 0) : Int).toNat
set_option maxRecDepth 8000 in
theorem ct_M_findShed_fb485 {I : fH}  (h0 : fB bsJ I) (hp0 : sI I 741) (hp1 : okL (mLw 741 I)) (hp2 : okE 741 I) : fC ρ base n F xTc vwCl xTys D dA la gJ (fbz bsJ znJ (fKc wz_c83f0) I) xm_434 [.inr (.inr (some 740))] I (fun I' r => ∃ z, r = some (.inl z) ∧ (0 ≤ z ∧ z ≤ 24) ∧ (z = cp (sRk (mR I) (mLw 741 I)) (gt (mR I) 7).toNat) ∧ (enI (sRk (mR I) (mLw 741 I)) (gt (mR I) 7).toNat z.toNat (I' 751) (I' 752)) ∧ (mR I' = mR I)) := by
  have hW : fzs wz_c83f0 (fKc wz_c83f0) := fKc_ok _
  refine f_meth (rb := rbJ) (J := [(10, (jc_M_findShed_fb485_10 I)), (52, (jc_M_findShed_fb485_52 I))]) 626 400 xG xin_434 x6_434 okJ (fB_self h0) ?_ ?_
  · refine List.forall_mem_cons.mpr ⟨?_, List.forall_mem_cons.mpr ⟨?_, fun q h => absurd h List.not_mem_nil⟩⟩
    · rintro m _ _ I1 hB1 ⟨y1, y2, y3, rfl, rfl, ⟨hb, hx0, hx1⟩, hm⟩
      have k1 := fBz_eq hB1 (a := 741) (j := 9) (by decide +kernel)
      have k2 := fBz_eq hB1 (a := 741) (j := 7) (by decide +kernel)
      have b3 := fBd fb_741_7 (fBz h0 hB1)
      have b4 := fBd fb_741_9 (fBz h0 hB1)
      have eR : mR I1 = mR I := mR_fr (fFr_of hB1) (by decide +kernel)
      skip
      have eL : mLw 741 I1 = mLw 741 I := (mLw_fr (fFr_of hB1) (by decide +kernel))
      have w7 := (show I 741 7 = gt (mR I) 7 from (mR_ld (I := I) (k := 7) (by decide +kernel)).symm)
      refine And.intro ⟨rfl, by decide, by decide⟩ ?_
      refine fload1 rL_741_741_7_7_1_0 h0 hB1 ⟨by decide, by decide⟩ (by first | exact ⟨by decide, by decide⟩ | omega) ?_
      intro z5 lz5 uz5 qz5
      have pz5 := fld_at qz5 7 (by omega)
      have v17 := mL_r (i0 := 7) (i1 := 7) (m := 1) (q := 0) (by decide +kernel) qz5 (by omega) rfl
      rw [eR] at v17
      refine And.intro (And.intro (by first | exact fi_ hb.2.2.1.1 hb.2.2.1.2 rfl | omega) (by first | exact fi_ lz5 uz5 rfl | omega)) (And.intro ?_ ?_)
      · intro c6
        refine And.intro (True.intro) ?_
        exact ⟨_, rfl, (by first | exact ⟨hb.2.1.1, hb.2.1.2⟩ | omega), ((show y2 = ((y2.toNat : Nat) : Int) by omega).trans (en_cp (n := (gt (mR I) 7).toNat) (en_cast hx1 (by omega) rfl)).symm), (en_cast hx1 (by omega) rfl), (mR_fr (fFr_of hB1) (by decide +kernel))⟩
      · intro c7
        refine Exists.intro xm_245 (And.intro mi_245 (And.intro ⟨rfl, rfl, rfl, rfl⟩ (And.intro rfl ?_)))
        refine fcallp hB1 (ct_M_isGone_0de37 (fBz h0 hB1) (by first | exact ⟨hb.2.2.1.1, Int.le_trans (Int.le_sub_one_of_lt (Int.lt_of_lt_of_le c7 uz5)) (by decide)⟩ | omega)) ?_
        rintro _ ⟨z8, rfl, hz8, g0z8⟩
        try rw [eR] at g0z8
        refine And.intro (by omega) (And.intro ?_ ?_)
        · intro c9
          try replace hz8 := wj_ hz8.2 c9
          refine Exists.intro xm_435 (And.intro mi_435 (And.intro ⟨rfl, rfl, rfl, rfl⟩ (And.intro rfl ?_)))
          refine fcall _ h0 (fzs_sub (by decide +kernel) hW) hB1 (ct_M_worthOf_2d64c (fBz h0 hB1) (by first | exact ⟨hb.1.1, hb.1.2⟩ | omega) (by first | exact ⟨hb.2.2.1.1, Int.le_trans (Int.le_sub_one_of_lt (Int.lt_of_lt_of_le c7 uz5)) (by decide)⟩ | omega) (sI_keep hp0 h0 hB1 (by decide +kernel)) (by omega) (by rw [eL]; exact hp1) (okE_fr (fFr_of hB1) (by decide +kernel) hp2) (by rw [eL, eR]; exact hx0)) ?_
          rintro IhB11 _ hB11 fhB11 ⟨z10, rfl, hz10, g0z10, g1z10⟩
          have t12 := fhB11 741 7 (by decide +kernel)
          have k13 := fBz_eq hB11 (a := 741) (j := 9) (by decide +kernel)
          have k14 := fBz_eq hB11 (a := 741) (j := 7) (by decide +kernel)
          rw [eL, eR] at g0z10
          have s1 : IhB11 751 = I1 751 := funext (fun j => fFr_at fhB11 751 (by decide +kernel) rfl j)
          have s2 : IhB11 752 = I1 752 := funext (fun j => fFr_at fhB11 752 (by decide +kernel) rfl j)
          refine And.intro (by first | exact fi_ hz10.1 hz10.2 rfl | omega) (And.intro ?_ ?_)
          · intro c15
            exact fcutJ (I := IhB11) (j := (jc_M_findShed_fb485_52 I)) (lv' := [(0, .inr (.inr (some 740))), (1, .inl _), (2, .inl _), (3, .inl _), (4, .inl _), (5, .inl _)]) (And.intro rfl (And.intro rfl (And.intro rfl (And.intro rfl (And.intro rfl (And.intro rfl True.intro)))))) ⟨_, _, _, _, _, rfl, rfl, ⟨by omega, hx0, (shW_0 (by rw [s1, s2]; exact hx1) rfl), (rk_r (w := y3) (by omega) (g0z8.elim (fun q => absurd q.1 (by omega)) (fun q => q.2)) g0z10)⟩, rfl⟩ (by omega)
          · intro c16
            exact fcutJ (I := IhB11) (j := (jc_M_findShed_fb485_10 I)) (lv' := [(0, .inr (.inr (some 740))), (1, .inl _), (2, .inl _), (3, .inl _)]) (And.intro rfl (And.intro rfl (And.intro rfl (And.intro rfl True.intro)))) ⟨_, _, _, rfl, rfl, ⟨by omega, hx0, (by rw [s1, s2]; exact en_sk hx1 (by omega) (by omega) (by rw [← (rk_r (w := y3) (by omega) (g0z8.elim (fun q => absurd q.1 (by omega)) (fun q => q.2)) g0z10)]; omega))⟩, rfl⟩ (by omega)
        · intro c17
          try replace hz8 := And.intro (wk_ hz8.1 c17) (wi_ hz8.2 c17)
          refine And.intro (by first | exact ⟨by decide, by decide⟩ | omega) (And.intro ?_ ?_)
          · intro c18
            exact fcutJ (I := I1) (j := (jc_M_findShed_fb485_52 I)) (lv' := [(0, .inr (.inr (some 740))), (1, .inl _), (2, .inl _), (3, .inl _), (4, .inl _), (5, .inl _)]) (And.intro rfl (And.intro rfl (And.intro rfl (And.intro rfl (And.intro rfl (And.intro rfl True.intro)))))) ⟨_, _, _, _, _, rfl, rfl, ⟨by omega, hx0, (by exfalso; omega), (by exfalso; omega)⟩, rfl⟩ (by omega)
          · intro c19
            exact fcutJ (I := I1) (j := (jc_M_findShed_fb485_10 I)) (lv' := [(0, .inr (.inr (some 740))), (1, .inl _), (2, .inl _), (3, .inl _)]) (And.intro rfl (And.intro rfl (And.intro rfl (And.intro rfl True.intro)))) ⟨_, _, _, rfl, rfl, ⟨by omega, hx0, (en_sk hx1 (by omega) (by omega) (by rw [rk_g (w := y3) (by omega) (g0z8.elim (fun q => q.2) (fun q => absurd q.1 (by omega)))]; decide))⟩, rfl⟩ (by omega)
    · rintro m _ _ I1 hB1 ⟨y1, y2, y3, y4, y5, rfl, rfl, ⟨hb, hx0, hx1, hx2⟩, hm⟩
      have k20 := fBz_eq hB1 (a := 741) (j := 9) (by decide +kernel)
      have k21 := fBz_eq hB1 (a := 741) (j := 7) (by decide +kernel)
      have b22 := fBd fb_741_7 (fBz h0 hB1)
      have b23 := fBd fb_741_9 (fBz h0 hB1)
      have eR : mR I1 = mR I := mR_fr (fFr_of hB1) (by decide +kernel)
      skip
      have eL : mLw 741 I1 = mLw 741 I := (mLw_fr (fFr_of hB1) (by decide +kernel))
      refine And.intro (by first | exact fi_ hb.2.2.2.2.1.1 hb.2.2.2.2.1.2 rfl | omega) (And.intro ?_ ?_)
      · intro c24
        refine And.intro ⟨rfl, by decide, by decide⟩ ?_
        refine fstore1 rS_752_752_0_23_1_0 (fzs_sub (by decide +kernel) hW) ⟨by decide, by decide⟩ (by first | exact ⟨hb.2.2.2.2.1.1, Int.le_trans (Int.le_trans c24 (Int.le_refl _)) (by decide)⟩ | omega) (by first | exact ⟨Int.le_trans (by decide) hb.2.2.2.1.1, hb.2.2.2.1.2⟩ | omega) ?_
        intro IhB25 ehB25 hB25
        have t26 := fup_self ehB25
        have t27 : IhB25 741 7 = I1 741 7 := (congrFun (congrFun ehB25 741) 7).trans (fup_ne (by first | exact Or.inl (by decide) | omega))
        have k28 := fBz_eq hB25 (a := 741) (j := 9) (by decide +kernel)
        have k29 := fBz_eq hB25 (a := 741) (j := 7) (by decide +kernel)
        have r117 := mR_ot ehB25 (by decide)
        have s4 : IhB25 751 = I1 751 := funext (fun j => fup_other ehB25 751 j (Or.inl (by decide)))
        refine And.intro ⟨rfl, by decide, by decide⟩ ?_
        refine fstore1 rS_751_751_0_23_1_0 (fzs_sub (by decide +kernel) hW) ⟨by decide, by decide⟩ (by first | exact ⟨hb.2.2.2.2.1.1, Int.le_trans (Int.le_trans c24 (Int.le_refl _)) (by decide)⟩ | omega) (by first | exact ⟨hb.2.2.1.1, hb.2.2.1.2⟩ | omega) ?_
        intro IhB30 ehB30 hB30
        have t31 := fup_self ehB30
        have t32 : IhB30 741 7 = IhB25 741 7 := (congrFun (congrFun ehB30 741) 7).trans (fup_ne (by first | exact Or.inl (by decide) | omega))
        have k33 := fBz_eq hB30 (a := 741) (j := 9) (by decide +kernel)
        have k34 := fBz_eq hB30 (a := 741) (j := 7) (by decide +kernel)
        have r125 := mR_ot ehB30 (by decide)
        intro z35 hz35 bz35
        have bz35 := bz35 (by omega)
        exact fcutJ (I := IhB30) (j := (jc_M_findShed_fb485_10 I)) (lv' := [(0, .inr (.inr (some 740))), (1, .inl _), (2, .inl _), (3, .inl _)]) (And.intro rfl (And.intro rfl (And.intro rfl (And.intro rfl True.intro)))) ⟨_, _, _, rfl, rfl, ⟨by omega, hx0, (en_cast (shW_E (w := 0) hx1 hx2 (by omega) (Or.inl (by omega)) ((funext fun j => fup_other ehB30 752 j (Or.inl (by decide))).trans (pn_st ehB25 rfl)) ((pn_st ehB30 rfl).trans (by rw [s4])) (by omega) (by omega) (by omega)) (by omega) (by omega))⟩, rfl⟩ (by omega)
      · intro c36
        refine And.intro ⟨rfl, by decide, by decide⟩ ?_
        refine fload rL_752_752_0_23_1_0 h0 hB1 (by omega) ?_
        intro z37 lz37 uz37 qz37
        refine And.intro (And.intro (by first | exact fi_ lz37 uz37 rfl | omega) (by first | exact fi_ hb.2.2.2.1.1 hb.2.2.2.1.2 rfl | omega)) (And.intro ?_ ?_)
        · intro c38
          refine And.intro ⟨rfl, by decide, by decide⟩ ?_
          refine fstore1 rS_752_752_0_23_1_0 (fzs_sub (by decide +kernel) hW) ⟨by decide, by decide⟩ (by first | exact ⟨Int.le_trans (by decide) (Int.add_one_le_of_lt (Int.lt_of_le_of_lt (Int.le_refl _) c36)), hb.2.2.2.2.1.2⟩ | omega) (by first | exact ⟨Int.le_trans (by decide) hb.2.2.2.1.1, hb.2.2.2.1.2⟩ | omega) ?_
          intro IhB39 ehB39 hB39
          have t40 := fup_self ehB39
          have t41 : IhB39 741 7 = I1 741 7 := (congrFun (congrFun ehB39 741) 7).trans (fup_ne (by first | exact Or.inl (by decide) | omega))
          have k42 := fBz_eq hB39 (a := 741) (j := 9) (by decide +kernel)
          have k43 := fBz_eq hB39 (a := 741) (j := 7) (by decide +kernel)
          have r117 := mR_ot ehB39 (by decide)
          have s4 : IhB39 751 = I1 751 := funext (fun j => fup_other ehB39 751 j (Or.inl (by decide)))
          refine And.intro ⟨rfl, by decide, by decide⟩ ?_
          refine fstore1 rS_751_751_0_23_1_0 (fzs_sub (by decide +kernel) hW) ⟨by decide, by decide⟩ (by first | exact ⟨Int.le_trans (by decide) (Int.add_one_le_of_lt (Int.lt_of_le_of_lt (Int.le_refl _) c36)), hb.2.2.2.2.1.2⟩ | omega) (by first | exact ⟨hb.2.2.1.1, hb.2.2.1.2⟩ | omega) ?_
          intro IhB44 ehB44 hB44
          have t45 := fup_self ehB44
          have t46 : IhB44 741 7 = IhB39 741 7 := (congrFun (congrFun ehB44 741) 7).trans (fup_ne (by first | exact Or.inl (by decide) | omega))
          have k47 := fBz_eq hB44 (a := 741) (j := 9) (by decide +kernel)
          have k48 := fBz_eq hB44 (a := 741) (j := 7) (by decide +kernel)
          have r125 := mR_ot ehB44 (by decide)
          intro z49 hz49 bz49
          have bz49 := bz49 (by omega)
          exact fcutJ (I := IhB44) (j := (jc_M_findShed_fb485_10 I)) (lv' := [(0, .inr (.inr (some 740))), (1, .inl _), (2, .inl _), (3, .inl _)]) (And.intro rfl (And.intro rfl (And.intro rfl (And.intro rfl True.intro)))) ⟨_, _, _, rfl, rfl, ⟨by omega, hx0, (en_cast (shW_E hx1 hx2 (by omega) (Or.inr ⟨(y5 - 1).toNat, by omega, qz37, by omega⟩) ((funext fun j => fup_other ehB44 752 j (Or.inl (by decide))).trans (pn_st ehB39 rfl)) ((pn_st ehB44 rfl).trans (by rw [s4])) (by omega) (by omega) (by omega)) (by omega) (by omega))⟩, rfl⟩ (by omega)
        · intro c50
          refine And.intro ⟨rfl, by decide, by decide⟩ ?_
          refine And.intro ⟨rfl, by decide, by decide⟩ ?_
          refine fload rL_752_752_0_23_1_0 h0 hB1 (by omega) ?_
          intro z51 lz51 uz51 qz51
          refine fstore1 rS_752_752_0_23_1_0 (fzs_sub (by decide +kernel) hW) ⟨by decide, by decide⟩ (by first | exact ⟨Int.le_trans (by decide) (Int.add_one_le_of_lt (Int.lt_of_le_of_lt (Int.le_refl _) c36)), hb.2.2.2.2.1.2⟩ | omega) (by first | exact ⟨lz51, uz51⟩ | omega) ?_
          intro IhB52 ehB52 hB52
          have t53 := fup_self ehB52
          have t54 : IhB52 741 7 = I1 741 7 := (congrFun (congrFun ehB52 741) 7).trans (fup_ne (by first | exact Or.inl (by decide) | omega))
          have k55 := fBz_eq hB52 (a := 741) (j := 9) (by decide +kernel)
          have k56 := fBz_eq hB52 (a := 741) (j := 7) (by decide +kernel)
          have r86 := mR_ot ehB52 (by decide)
          have s3 : IhB52 751 = I1 751 := funext (fun j => fup_other ehB52 751 j (Or.inl (by decide)))
          refine And.intro ⟨rfl, by decide, by decide⟩ ?_
          refine And.intro ⟨rfl, by decide, by decide⟩ ?_
          refine fload rL_751_751_0_23_1_0 h0 hB52 (by omega) ?_
          intro z57 lz57 uz57 qz57
          refine fstore1 rS_751_751_0_23_1_0 (fzs_sub (by decide +kernel) hW) ⟨by decide, by decide⟩ (by first | exact ⟨Int.le_trans (by decide) (Int.add_one_le_of_lt (Int.lt_of_le_of_lt (Int.le_refl _) c36)), hb.2.2.2.2.1.2⟩ | omega) (by first | exact ⟨lz57, uz57⟩ | omega) ?_
          intro IhB58 ehB58 hB58
          have t59 := fup_self ehB58
          have t60 : IhB58 741 7 = IhB52 741 7 := (congrFun (congrFun ehB58 741) 7).trans (fup_ne (by first | exact Or.inl (by decide) | omega))
          have k61 := fBz_eq hB58 (a := 741) (j := 9) (by decide +kernel)
          have k62 := fBz_eq hB58 (a := 741) (j := 7) (by decide +kernel)
          have r102 := mR_ot ehB58 (by decide)
          exact fcutJ (I := IhB58) (j := (jc_M_findShed_fb485_52 I)) (lv' := [(0, .inr (.inr (some 740))), (1, .inl _), (2, .inl _), (3, .inl _), (4, .inl _), (5, .inl _)]) (And.intro rfl (And.intro rfl (And.intro rfl (And.intro rfl (And.intro rfl (And.intro rfl True.intro)))))) ⟨_, _, _, _, _, rfl, rfl, ⟨by omega, hx0, (shW_S (p' := (y5 - 1).toNat) hx1 (by omega) qz51 (by omega) (qz57.trans (congrFun s3 _)) ((funext fun j => fup_other ehB58 752 j (Or.inl (by decide))).trans (pn_st ehB52 rfl)) ((pn_st ehB58 rfl).trans (by rw [s3])) (by omega)), hx2⟩, rfl⟩ (by omega)
  · have hB0 := fB_self (zn := znJ) (K := fKc wz_c83f0) h0
    have b63 := fBd fb_741_7 (fBz h0 hB0)
    have b64 := fBd fb_741_9 (fBz h0 hB0)
    refine Exists.intro xm_254 (And.intro mi_254 (And.intro ⟨rfl, rfl, rfl, rfl⟩ (And.intro rfl ?_)))
    refine fcallp hB0 (ct_M_counts_1278f (fBz h0 hB0) (by first | exact ⟨by decide, by decide⟩ | omega)) ?_
    rintro _ ⟨z65, rfl, hz65, g0z65⟩
    exact fcutJ (I := I) (j := (jc_M_findShed_fb485_10 I)) (lv' := [(0, .inr (.inr (some 740))), (1, .inl _), (2, .inl _), (3, .inl _)]) (And.intro rfl (And.intro rfl (And.intro rfl (And.intro rfl True.intro)))) ⟨_, _, _, rfl, rfl, ⟨by omega, g0z65, en_0⟩, rfl⟩ (by omega)
set_option maxRecDepth 8000 in
theorem ct_M_order_8f559 {I : fH} {x1 : Int} (h0 : fB bsJ I) (ha1 : ((-2147483648) ≤ x1 ∧ x1 ≤ 2147483647)) (hp0 : sI I 741) (hp1 : okL (mLw 741 I)) (hp2 : okE 741 I) : fC ρ base n F xTc vwCl xTys D dA la gJ (fbz bsJ znJ (fKc wz_c83f0) I) xm_433 [.inr (.inr (some 740)), .inl x1] I (fun I' r => ∃ z, r = some (.inl z) ∧ ((0 ≤ z ∧ z ≤ 23) ∨ z = (-1000000005) ∨ z = (-1000000001)) ∧ (z = oOrder (mR I) (mLw 741 I) x1) ∧ (mR I' = mR I)) := by
  have hW : fzs wz_c83f0 (fKc wz_c83f0) := fKc_ok _
  refine f_meth (rb := rbJ) (J := []) 1 400 xG xin_433 x6_433 okJ (fB_self h0) ?_ ?_
  · exact fun q h => absurd h List.not_mem_nil
  · have hB0 := fB_self (zn := znJ) (K := fKc wz_c83f0) h0
    refine And.intro (by first | exact fi_ ha1.1 ha1.2 rfl | omega) (And.intro ?_ ?_)
    · intro c1
      refine Exists.intro xm_434 (And.intro mi_434 (And.intro ⟨rfl, rfl, rfl, rfl⟩ (And.intro rfl ?_)))
      refine fcall _ h0 (fzs_sub (by decide +kernel) hW) hB0 (ct_M_findShed_fb485 (fBz h0 hB0) (sI_keep hp0 h0 hB0 (by decide +kernel)) hp1 hp2) ?_
      rintro IhB3 _ hB3 fhB3 ⟨z2, rfl, hz2, g0z2, g1z2, g2z2⟩
      refine And.intro (And.intro (by first | exact fi_ (Int.le_trans (Int.le_refl _) c1) ha1.2 rfl | omega) (by first | exact fi_ hz2.1 hz2.2 rfl | omega)) (And.intro ?_ ?_)
      · intro c4
        refine And.intro (True.intro) ?_
        exact ⟨_, rfl, by omega, (if_n (by omega) (od_n (by omega) (by omega))), (mR_fr (fFr_of hB3) (by decide +kernel))⟩
      · intro c5
        refine And.intro ⟨rfl, by decide, by decide⟩ ?_
        refine fload1 rL_751_751_0_23_1_0 h0 hB3 ⟨by decide, by decide⟩ (by first | exact ⟨Int.le_trans (by decide) (Int.le_trans (Int.le_refl _) c1), Int.le_trans (Int.le_sub_one_of_lt (Int.lt_of_lt_of_le c5 hz2.2)) (by decide)⟩ | omega) ?_
        intro z6 lz6 uz6 qz6
        refine And.intro (True.intro) ?_
        exact ⟨_, rfl, by omega, (if_n (by omega) (od_e g1z2 (by omega) (by omega) qz6)), (mR_fr (fFr_of hB3) (by decide +kernel))⟩
    · intro c7
      refine And.intro (True.intro) ?_
      exact ⟨_, rfl, by omega, (if_y (by omega) rfl), (mR_fr (fFr_of hB0) (by decide +kernel))⟩
set_option maxRecDepth 8000 in
theorem ct_City_shedWork_42a03 {I : fH} {x1 : Int} (h0 : fB bsJ I) (ha1 : (0 ≤ x1 ∧ x1 ≤ 23)) (hp0 : gt (cR 0 I) (538 + 14 * x1) = 0) : fC ρ base n F xTc vwCl xTys D dA la gJ (fbz bsJ znJ (fKc wz_a5b5b) I) xm_154 [.inr (.inr (some 1)), .inl x1] I (fun I' r => r = none ∧ True ∧ (cR 0 I' = sShd (cR 0 I) x1)) := by
  have hW : fzs wz_a5b5b (fKc wz_a5b5b) := fKc_ok _
  refine f_meth (rb := rbJ) (J := []) 1 400 xG xin_154 x6_154 okJ (fB_self h0) ?_ ?_
  · exact fun q h => absurd h List.not_mem_nil
  · have hB0 := fB_self (zn := znJ) (K := fKc wz_a5b5b) h0
    refine And.intro ⟨rfl, by decide, by decide⟩ ?_
    refine Exists.intro xm_64 (And.intro mi_64 (And.intro ⟨rfl, rfl, rfl, rfl⟩ (And.intro rfl ?_)))
    refine fcallp hB0 (ct_Works_isSkin_801f8 (fBz h0 hB0) (by first | exact ⟨ha1.1, ha1.2⟩ | omega)) ?_
    rintro _ ⟨z1, rfl, hz1, g0z1⟩
    refine And.intro (by omega) (And.intro ?_ ?_)
    · intro c2
      try replace hz1 := wj_ hz1.2 c2
      refine And.intro ⟨rfl, by decide, by decide⟩ ?_
      refine And.intro ⟨rfl, by decide, by decide⟩ ?_
      refine fstore1 rS_174_174_0_23_1_0 (fzs_sub (by decide +kernel) hW) ⟨by decide, by decide⟩ (by first | exact ⟨ha1.1, ha1.2⟩ | omega) (by first | exact ⟨by decide, by decide⟩ | omega) ?_
      intro IhB3 ehB3 hB3
      have t4 := fup_self ehB3
      have r34 := cS_a (d := 0) (a := 174) (n := 24) (b := 538) (m := 14) (by decide +kernel) (by decide) ehB3 (by omega) rfl
      exact ⟨rfl, True.intro, (by rw [r34]; exact (shd_0 rfl (fun q => (g0z1.elim (fun q => absurd q.1 (by omega)) (fun q => q.2)) ⟨q, hp0⟩) (by omega) (by omega)))⟩
    · intro c5
      try replace hz1 := And.intro (wk_ hz1.1 c5) (wi_ hz1.2 c5)
      refine And.intro ⟨rfl, by decide, by decide⟩ ?_
      refine And.intro ⟨rfl, by decide, by decide⟩ ?_
      refine fload1 rL_172_172_0_23_1_0 h0 hB0 ⟨by decide, by decide⟩ (by first | exact ⟨ha1.1, ha1.2⟩ | omega) ?_
      intro z6 lz6 uz6 qz6
      have v21 := cL_a (d := 0) (a := 172) (n := 24) (b := 536) (m := 14) (by decide +kernel) (by decide) qz6 (by omega) rfl
      refine Exists.intro xm_81 (And.intro mi_81 (And.intro ⟨rfl, rfl, rfl, rfl⟩ (And.intro rfl ?_)))
      refine fcall _ h0 (fzs_sub (by decide +kernel) hW) hB0 (ct_City_loseGas_68982 (fBz h0 hB0) (by first | exact ⟨ha1.1, ha1.2⟩ | omega) (by first | exact ⟨lz6, uz6⟩ | omega) (by omega) (by omega)) ?_
      rintro IhB8 _ hB8 fhB8 ⟨rfl, hz7, g0z7⟩
      refine And.intro ⟨rfl, by decide, by decide⟩ ?_
      refine And.intro ⟨rfl, by decide, by decide⟩ ?_
      refine fstore1 rS_174_174_0_23_1_0 (fzs_sub (by decide +kernel) hW) ⟨by decide, by decide⟩ (by first | exact ⟨ha1.1, ha1.2⟩ | omega) (by first | exact ⟨by decide, by decide⟩ | omega) ?_
      intro IhB9 ehB9 hB9
      have t10 := fup_self ehB9
      have r34 := cS_a (d := 0) (a := 174) (n := 24) (b := 538) (m := 14) (by decide +kernel) (by decide) ehB9 (by omega) rfl
      exact ⟨rfl, True.intro, (by rw [r34, g0z7]; exact (shd_1 rfl (g0z1.elim (fun q => q.2) (fun q => absurd q.1 (by omega))).1 rfl (gt_at v21 (by omega)) (by omega) (by omega)))⟩
set_option maxRecDepth 8000 in
theorem ct_X_shed_66828 {I : fH}  (h0 : fB bsJ I) (hp0 : okL (cLw 0 I)) : fC ρ base n F xTc vwCl xTys D dA la gJ (fbz bsJ znJ (fKc wz_9b72b) I) xm_153 [.inr (.inr (some 0))] I (fun I' r => ∃ z, r = some (.inl z) ∧ ((0 ≤ z ∧ z ≤ 23) ∨ z = (-1000000002)) ∧ ((cR 0 I', z) = oShed (cR 0 I) (cLw 0 I))) := by
  have hW : fzs wz_9b72b (fKc wz_9b72b) := fKc_ok _
  refine f_meth (rb := rbJ) (J := []) 1 400 xG xin_153 x6_153 okJ (fB_self h0) ?_ ?_
  · exact fun q h => absurd h List.not_mem_nil
  · have hB0 := fB_self (zn := znJ) (K := fKc wz_9b72b) h0
    have b1 := fBd fb_163_13 (fBz h0 hB0)
    have w907 : I 163 13 = gt (cR 0 I) 7 := (cL_f (d := 0) (a := 163) (j := 13) (r := 7) (p := 7) (I := I) (z := I 163 13) (by decide +kernel) (by decide) rfl rfl)
    refine And.intro ⟨rfl, by decide, by decide⟩ ?_
    refine And.intro ⟨rfl, by decide, by decide⟩ ?_
    refine Exists.intro xm_149 (And.intro mi_149 (And.intro ⟨rfl, rfl, rfl, rfl⟩ (And.intro rfl ?_)))
    refine fcall _ h0 (fzs_sub (by decide +kernel) hW) hB0 (ct_Charter_rankSheds_09e4d (fBz h0 hB0) hp0) ?_
    rintro IhB3 _ hB3 fhB3 ⟨rfl, hz2, g0z2, g1z2⟩
    have s0 : srI (sRk (cR 0 I) (cLw 0 I)) (gt (cR 0 I) 7).toNat (IhB3 210) 0 := sr_0 (fun i l => g0z2 i (by omega)) rfl
    refine And.intro ⟨rfl, by decide, by decide⟩ ?_
    refine And.intro ⟨rfl, by decide, by decide⟩ ?_
    refine Exists.intro xm_152 (And.intro mi_152 (And.intro ⟨rfl, rfl, rfl, rfl⟩ (And.intro rfl ?_)))
    refine fcall _ h0 (fzs_sub (by decide +kernel) hW) hB3 (ct_Charter_nextShed_baa16 (fBz h0 hB3)) ?_
    rintro IhB5 _ hB5 fhB5 ⟨z4, rfl, hz4, g0z4, g1z4⟩
    rw [g1z2] at g0z4
    have P0 := pk_od (j := 0) (j' := 0 + 1) s0 g0z4 (by omega) rfl
    refine And.intro (by omega) (And.intro ?_ ?_)
    · intro c6
      refine And.intro ⟨rfl, by decide, by decide⟩ ?_
      refine Exists.intro xm_154 (And.intro mi_154 (And.intro ⟨rfl, rfl, rfl, rfl⟩ (And.intro rfl ?_)))
      refine fcall _ h0 (fzs_sub (by decide +kernel) hW) hB5 (ct_City_shedWork_42a03 (fBz h0 hB5) (by omega) (by rw [g1z4, g1z2]; have a := (od_live P0.1 (by omega)).2; have b : 0 ≤ gt (cR 0 I) (538 + 14 * z4) ∧ gt (cR 0 I) (538 + 14 * z4) ≤ 1 := (cR_rng (d := 0) (i0 := 538) (i1 := 860) (m := 14) (q := 0) (lo := 0) (hi := 1) (by decide +kernel) h0 (by omega)); omega)) ?_
      rintro IhB8 _ hB8 fhB8 ⟨rfl, hz7, g0z7⟩
      refine And.intro (True.intro) ?_
      exact ⟨_, rfl, by omega, (shd_y P0.1 (by omega) (by rw [g0z7, g1z4, g1z2]) rfl)⟩
    · intro c9
      refine And.intro (True.intro) ?_
      exact ⟨_, rfl, by omega, (shd_n P0.1 (by omega) (by rw [g1z4, g1z2]) rfl)⟩
end CT

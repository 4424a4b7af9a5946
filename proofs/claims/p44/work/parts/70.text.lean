set_option linter.all false
/-! text: the words of the charter are String constants (written by gen70.py) -/
def xm_c : xM := (⟨"java/lang/String", "coder", "()B"⟩, prog_18_method_152_code, 1, some .byte, [], { frames := 0, cells := 0, slots := 0, locals := 0 })
def xm_l : xM := (⟨"java/lang/String", "length", "()I"⟩, prog_18_method_54_code, 1, some .int, [], { frames := 1, cells := 0, slots := 0, locals := 20 })
def xm_la : xM := (⟨"java/lang/String", "isLatin1", "()Z"⟩, prog_18_method_154_code, 1, some .boolean, [], { frames := 0, cells := 0, slots := 0, locals := 0 })
def xm_pi : xM := (⟨"jdk/internal/util/Preconditions", "checkIndex", "(IILjava/util/function/BiFunction;)I"⟩, prog_23_method_11_code, 3, some .int, [], { frames := 0, cells := 0, slots := 0, locals := 0 })
def xm_ci : xM := (⟨"java/lang/String", "checkIndex", "(II)V"⟩, prog_18_method_155_code, 2, none, [], { frames := 1, cells := 0, slots := 0, locals := 22 })
def xm_c1 : xM := (⟨"java/lang/StringLatin1", "charAt", "([BI)C"⟩, prog_19_method_2_code, 2, some .char, [], { frames := 2, cells := 0, slots := 0, locals := 43 })
def xm_ch : xM := (⟨"java/lang/String", "charAt", "(I)C"⟩, prog_18_method_56_code, 2, some .char, [], { frames := 3, cells := 0, slots := 0, locals := 64 })
def xm_ce : xM := (⟨"java/lang/StringLatin1", "canEncode", "(I)Z"⟩, prog_19_method_4_code, 1, some .boolean, [], { frames := 0, cells := 0, slots := 0, locals := 0 })
def xm_ic : xM := (⟨"java/lang/StringLatin1", "indexOfChar", "([BIII)I"⟩, prog_19_method_23_code, 6, some .int, [], { frames := 0, cells := 0, slots := 0, locals := 0 })
def xm_i1 : xM := (⟨"java/lang/StringLatin1", "indexOf", "([BIII)I"⟩, prog_19_method_22_code, 4, some .int, [], { frames := 1, cells := 0, slots := 0, locals := 40 })
def xm_i2 : xM := (⟨"java/lang/String", "indexOf", "(II)I"⟩, prog_18_method_80_code, 3, some .int, [], { frames := 2, cells := 0, slots := 0, locals := 70 })
def xm_ix : xM := (⟨"java/lang/String", "indexOf", "(I)I"⟩, prog_18_method_79_code, 2, some .int, [], { frames := 3, cells := 0, slots := 0, locals := 100 })
theorem dkc_0 : decode xm_c.2.1 0 = .ok (.getstatic 38, 3) := qP_ok (r := [(.getstatic 38, 3)]) (by decide +kernel)
theorem dkc_3 : decode xm_c.2.1 3 = .ok (.ifCond .eq 10, 3) := qP_ok (r := [(.ifCond .eq 10, 3)]) (by decide +kernel)
theorem dkc_6 : decode xm_c.2.1 6 = .ok (.aload_n 0, 1) := qP_ok (r := [(.aload_n 0, 1)]) (by decide +kernel)
theorem dkc_7 : decode xm_c.2.1 7 = .ok (.getfield 15, 3) := qP_ok (r := [(.getfield 15, 3)]) (by decide +kernel)
theorem dkc_10 : decode xm_c.2.1 10 = .ok (.goto 4, 3) := qP_ok (r := [(.goto 4, 3)]) (by decide +kernel)
theorem dkc_13 : decode xm_c.2.1 13 = .ok (.iconst 1, 1) := qP_ok (r := [(.iconst 1, 1)]) (by decide +kernel)
theorem dkc_14 : decode xm_c.2.1 14 = .ok (.ireturn, 1) := qP_ok (r := [(.ireturn, 1)]) (by decide +kernel)
theorem dkl_0 : decode xm_l.2.1 0 = .ok (.aload_n 0, 1) := qP_ok (r := [(.aload_n 0, 1)]) (by decide +kernel)
theorem dkl_1 : decode xm_l.2.1 1 = .ok (.getfield 9, 3) := qP_ok (r := [(.getfield 9, 3)]) (by decide +kernel)
theorem dkl_4 : decode xm_l.2.1 4 = .ok (.arraylength, 1) := qP_ok (r := [(.arraylength, 1)]) (by decide +kernel)
theorem dkl_5 : decode xm_l.2.1 5 = .ok (.aload_n 0, 1) := qP_ok (r := [(.aload_n 0, 1)]) (by decide +kernel)
theorem dkl_6 : decode xm_l.2.1 6 = .ok (.invokevirtual 335, 3) := qP_ok (r := [(.invokevirtual 335, 3)]) (by decide +kernel)
theorem dkl_9 : decode xm_l.2.1 9 = .ok (.ishr, 1) := qP_ok (r := [(.ishr, 1)]) (by decide +kernel)
theorem dkl_10 : decode xm_l.2.1 10 = .ok (.ireturn, 1) := qP_ok (r := [(.ireturn, 1)]) (by decide +kernel)
theorem dkla_0 : decode xm_la.2.1 0 = .ok (.getstatic 38, 3) := qP_ok (r := [(.getstatic 38, 3)]) (by decide +kernel)
theorem dkla_3 : decode xm_la.2.1 3 = .ok (.ifCond .eq 14, 3) := qP_ok (r := [(.ifCond .eq 14, 3)]) (by decide +kernel)
theorem dkla_6 : decode xm_la.2.1 6 = .ok (.aload_n 0, 1) := qP_ok (r := [(.aload_n 0, 1)]) (by decide +kernel)
theorem dkla_7 : decode xm_la.2.1 7 = .ok (.getfield 15, 3) := qP_ok (r := [(.getfield 15, 3)]) (by decide +kernel)
theorem dkla_10 : decode xm_la.2.1 10 = .ok (.ifCond .ne 7, 3) := qP_ok (r := [(.ifCond .ne 7, 3)]) (by decide +kernel)
theorem dkla_13 : decode xm_la.2.1 13 = .ok (.iconst 1, 1) := qP_ok (r := [(.iconst 1, 1)]) (by decide +kernel)
theorem dkla_14 : decode xm_la.2.1 14 = .ok (.goto 4, 3) := qP_ok (r := [(.goto 4, 3)]) (by decide +kernel)
theorem dkla_17 : decode xm_la.2.1 17 = .ok (.iconst 0, 1) := qP_ok (r := [(.iconst 0, 1)]) (by decide +kernel)
theorem dkla_18 : decode xm_la.2.1 18 = .ok (.ireturn, 1) := qP_ok (r := [(.ireturn, 1)]) (by decide +kernel)
theorem dkpi_0 : decode xm_pi.2.1 0 = .ok (.iload_n 0, 1) := qP_ok (r := [(.iload_n 0, 1)]) (by decide +kernel)
theorem dkpi_1 : decode xm_pi.2.1 1 = .ok (.ifCond .lt 8, 3) := qP_ok (r := [(.ifCond .lt 8, 3)]) (by decide +kernel)
theorem dkpi_4 : decode xm_pi.2.1 4 = .ok (.iload_n 0, 1) := qP_ok (r := [(.iload_n 0, 1)]) (by decide +kernel)
theorem dkpi_5 : decode xm_pi.2.1 5 = .ok (.iload_n 1, 1) := qP_ok (r := [(.iload_n 1, 1)]) (by decide +kernel)
theorem dkpi_6 : decode xm_pi.2.1 6 = .ok (.if_icmp .lt 10, 3) := qP_ok (r := [(.if_icmp .lt 10, 3)]) (by decide +kernel)
theorem dkpi_9 : decode xm_pi.2.1 9 = .ok (.aload_n 2, 1) := qP_ok (r := [(.aload_n 2, 1)]) (by decide +kernel)
theorem dkpi_10 : decode xm_pi.2.1 10 = .ok (.iload_n 0, 1) := qP_ok (r := [(.iload_n 0, 1)]) (by decide +kernel)
theorem dkpi_11 : decode xm_pi.2.1 11 = .ok (.iload_n 1, 1) := qP_ok (r := [(.iload_n 1, 1)]) (by decide +kernel)
theorem dkpi_12 : decode xm_pi.2.1 12 = .ok (.invokestatic 95, 3) := qP_ok (r := [(.invokestatic 95, 3)]) (by decide +kernel)
theorem dkpi_16 : decode xm_pi.2.1 16 = .ok (.iload_n 0, 1) := qP_ok (r := [(.iload_n 0, 1)]) (by decide +kernel)
theorem dkpi_17 : decode xm_pi.2.1 17 = .ok (.ireturn, 1) := qP_ok (r := [(.ireturn, 1)]) (by decide +kernel)
theorem dkci_0 : decode xm_ci.2.1 0 = .ok (.iload_n 0, 1) := qP_ok (r := [(.iload_n 0, 1)]) (by decide +kernel)
theorem dkci_1 : decode xm_ci.2.1 1 = .ok (.iload_n 1, 1) := qP_ok (r := [(.iload_n 1, 1)]) (by decide +kernel)
theorem dkci_2 : decode xm_ci.2.1 2 = .ok (.getstatic 1053, 3) := qP_ok (r := [(.getstatic 1053, 3)]) (by decide +kernel)
theorem dkci_5 : decode xm_ci.2.1 5 = .ok (.invokestatic 1059, 3) := qP_ok (r := [(.invokestatic 1059, 3)]) (by decide +kernel)
theorem dkci_8 : decode xm_ci.2.1 8 = .ok (.pop, 1) := qP_ok (r := [(.pop, 1)]) (by decide +kernel)
theorem dkci_9 : decode xm_ci.2.1 9 = .ok (.return_, 1) := qP_ok (r := [(.return_, 1)]) (by decide +kernel)
theorem dkc1_0 : decode xm_c1.2.1 0 = .ok (.iload_n 1, 1) := qP_ok (r := [(.iload_n 1, 1)]) (by decide +kernel)
theorem dkc1_1 : decode xm_c1.2.1 1 = .ok (.aload_n 0, 1) := qP_ok (r := [(.aload_n 0, 1)]) (by decide +kernel)
theorem dkc1_2 : decode xm_c1.2.1 2 = .ok (.arraylength, 1) := qP_ok (r := [(.arraylength, 1)]) (by decide +kernel)
theorem dkc1_3 : decode xm_c1.2.1 3 = .ok (.invokestatic 9, 3) := qP_ok (r := [(.invokestatic 9, 3)]) (by decide +kernel)
theorem dkc1_6 : decode xm_c1.2.1 6 = .ok (.aload_n 0, 1) := qP_ok (r := [(.aload_n 0, 1)]) (by decide +kernel)
theorem dkc1_7 : decode xm_c1.2.1 7 = .ok (.iload_n 1, 1) := qP_ok (r := [(.iload_n 1, 1)]) (by decide +kernel)
theorem dkc1_8 : decode xm_c1.2.1 8 = .ok (.baload, 1) := qP_ok (r := [(.baload, 1)]) (by decide +kernel)
theorem dkc1_9 : decode xm_c1.2.1 9 = .ok (.sipush 255, 3) := qP_ok (r := [(.sipush 255, 3)]) (by decide +kernel)
theorem dkc1_12 : decode xm_c1.2.1 12 = .ok (.iand, 1) := qP_ok (r := [(.iand, 1)]) (by decide +kernel)
theorem dkc1_13 : decode xm_c1.2.1 13 = .ok (.i2c, 1) := qP_ok (r := [(.i2c, 1)]) (by decide +kernel)
theorem dkc1_14 : decode xm_c1.2.1 14 = .ok (.ireturn, 1) := qP_ok (r := [(.ireturn, 1)]) (by decide +kernel)
theorem dkch_0 : decode xm_ch.2.1 0 = .ok (.aload_n 0, 1) := qP_ok (r := [(.aload_n 0, 1)]) (by decide +kernel)
theorem dkch_1 : decode xm_ch.2.1 1 = .ok (.invokevirtual 492, 3) := qP_ok (r := [(.invokevirtual 492, 3)]) (by decide +kernel)
theorem dkch_4 : decode xm_ch.2.1 4 = .ok (.ifCond .eq 12, 3) := qP_ok (r := [(.ifCond .eq 12, 3)]) (by decide +kernel)
theorem dkch_7 : decode xm_ch.2.1 7 = .ok (.aload_n 0, 1) := qP_ok (r := [(.aload_n 0, 1)]) (by decide +kernel)
theorem dkch_8 : decode xm_ch.2.1 8 = .ok (.getfield 9, 3) := qP_ok (r := [(.getfield 9, 3)]) (by decide +kernel)
theorem dkch_11 : decode xm_ch.2.1 11 = .ok (.iload_n 1, 1) := qP_ok (r := [(.iload_n 1, 1)]) (by decide +kernel)
theorem dkch_12 : decode xm_ch.2.1 12 = .ok (.invokestatic 495, 3) := qP_ok (r := [(.invokestatic 495, 3)]) (by decide +kernel)
theorem dkch_15 : decode xm_ch.2.1 15 = .ok (.ireturn, 1) := qP_ok (r := [(.ireturn, 1)]) (by decide +kernel)
theorem dkch_16 : decode xm_ch.2.1 16 = .ok (.aload_n 0, 1) := qP_ok (r := [(.aload_n 0, 1)]) (by decide +kernel)
theorem dkch_17 : decode xm_ch.2.1 17 = .ok (.getfield 9, 3) := qP_ok (r := [(.getfield 9, 3)]) (by decide +kernel)
theorem dkch_20 : decode xm_ch.2.1 20 = .ok (.iload_n 1, 1) := qP_ok (r := [(.iload_n 1, 1)]) (by decide +kernel)
theorem dkch_21 : decode xm_ch.2.1 21 = .ok (.invokestatic 498, 3) := qP_ok (r := [(.invokestatic 498, 3)]) (by decide +kernel)
theorem dkch_24 : decode xm_ch.2.1 24 = .ok (.ireturn, 1) := qP_ok (r := [(.ireturn, 1)]) (by decide +kernel)
theorem dkce_0 : decode xm_ce.2.1 0 = .ok (.iload_n 0, 1) := qP_ok (r := [(.iload_n 0, 1)]) (by decide +kernel)
theorem dkce_1 : decode xm_ce.2.1 1 = .ok (.ifCond .lt 14, 3) := qP_ok (r := [(.ifCond .lt 14, 3)]) (by decide +kernel)
theorem dkce_4 : decode xm_ce.2.1 4 = .ok (.iload_n 0, 1) := qP_ok (r := [(.iload_n 0, 1)]) (by decide +kernel)
theorem dkce_5 : decode xm_ce.2.1 5 = .ok (.sipush 255, 3) := qP_ok (r := [(.sipush 255, 3)]) (by decide +kernel)
theorem dkce_8 : decode xm_ce.2.1 8 = .ok (.if_icmp .gt 7, 3) := qP_ok (r := [(.if_icmp .gt 7, 3)]) (by decide +kernel)
theorem dkce_11 : decode xm_ce.2.1 11 = .ok (.iconst 1, 1) := qP_ok (r := [(.iconst 1, 1)]) (by decide +kernel)
theorem dkce_12 : decode xm_ce.2.1 12 = .ok (.goto 4, 3) := qP_ok (r := [(.goto 4, 3)]) (by decide +kernel)
theorem dkce_15 : decode xm_ce.2.1 15 = .ok (.iconst 0, 1) := qP_ok (r := [(.iconst 0, 1)]) (by decide +kernel)
theorem dkce_16 : decode xm_ce.2.1 16 = .ok (.ireturn, 1) := qP_ok (r := [(.ireturn, 1)]) (by decide +kernel)
theorem dkic_0 : decode xm_ic.2.1 0 = .ok (.iload_n 1, 1) := qP_ok (r := [(.iload_n 1, 1)]) (by decide +kernel)
theorem dkic_1 : decode xm_ic.2.1 1 = .ok (.i2b, 1) := qP_ok (r := [(.i2b, 1)]) (by decide +kernel)
theorem dkic_2 : decode xm_ic.2.1 2 = .ok (.istore 4, 2) := qP_ok (r := [(.istore 4, 2)]) (by decide +kernel)
theorem dkic_4 : decode xm_ic.2.1 4 = .ok (.iload_n 2, 1) := qP_ok (r := [(.iload_n 2, 1)]) (by decide +kernel)
theorem dkic_5 : decode xm_ic.2.1 5 = .ok (.istore 5, 2) := qP_ok (r := [(.istore 5, 2)]) (by decide +kernel)
theorem dkic_7 : decode xm_ic.2.1 7 = .ok (.iload 5, 2) := qP_ok (r := [(.iload 5, 2)]) (by decide +kernel)
theorem dkic_9 : decode xm_ic.2.1 9 = .ok (.iload_n 3, 1) := qP_ok (r := [(.iload_n 3, 1)]) (by decide +kernel)
theorem dkic_10 : decode xm_ic.2.1 10 = .ok (.if_icmp .ge 21, 3) := qP_ok (r := [(.if_icmp .ge 21, 3)]) (by decide +kernel)
theorem dkic_13 : decode xm_ic.2.1 13 = .ok (.aload_n 0, 1) := qP_ok (r := [(.aload_n 0, 1)]) (by decide +kernel)
theorem dkic_14 : decode xm_ic.2.1 14 = .ok (.iload 5, 2) := qP_ok (r := [(.iload 5, 2)]) (by decide +kernel)
theorem dkic_16 : decode xm_ic.2.1 16 = .ok (.baload, 1) := qP_ok (r := [(.baload, 1)]) (by decide +kernel)
theorem dkic_17 : decode xm_ic.2.1 17 = .ok (.iload 4, 2) := qP_ok (r := [(.iload 4, 2)]) (by decide +kernel)
theorem dkic_19 : decode xm_ic.2.1 19 = .ok (.if_icmp .ne 6, 3) := qP_ok (r := [(.if_icmp .ne 6, 3)]) (by decide +kernel)
theorem dkic_22 : decode xm_ic.2.1 22 = .ok (.iload 5, 2) := qP_ok (r := [(.iload 5, 2)]) (by decide +kernel)
theorem dkic_24 : decode xm_ic.2.1 24 = .ok (.ireturn, 1) := qP_ok (r := [(.ireturn, 1)]) (by decide +kernel)
theorem dkic_25 : decode xm_ic.2.1 25 = .ok (.iinc 5 1, 3) := qP_ok (r := [(.iinc 5 1, 3)]) (by decide +kernel)
theorem dkic_28 : decode xm_ic.2.1 28 = .ok (.goto (-21), 3) := qP_ok (r := [(.goto (-21), 3)]) (by decide +kernel)
theorem dkic_31 : decode xm_ic.2.1 31 = .ok (.iconst (-1), 1) := qP_ok (r := [(.iconst (-1), 1)]) (by decide +kernel)
theorem dkic_32 : decode xm_ic.2.1 32 = .ok (.ireturn, 1) := qP_ok (r := [(.ireturn, 1)]) (by decide +kernel)
theorem dki1_0 : decode xm_i1.2.1 0 = .ok (.iload_n 1, 1) := qP_ok (r := [(.iload_n 1, 1)]) (by decide +kernel)
theorem dki1_1 : decode xm_i1.2.1 1 = .ok (.invokestatic 88, 3) := qP_ok (r := [(.invokestatic 88, 3)]) (by decide +kernel)
theorem dki1_4 : decode xm_i1.2.1 4 = .ok (.ifCond .ne 5, 3) := qP_ok (r := [(.ifCond .ne 5, 3)]) (by decide +kernel)
theorem dki1_7 : decode xm_i1.2.1 7 = .ok (.iconst (-1), 1) := qP_ok (r := [(.iconst (-1), 1)]) (by decide +kernel)
theorem dki1_8 : decode xm_i1.2.1 8 = .ok (.ireturn, 1) := qP_ok (r := [(.ireturn, 1)]) (by decide +kernel)
theorem dki1_9 : decode xm_i1.2.1 9 = .ok (.iload_n 2, 1) := qP_ok (r := [(.iload_n 2, 1)]) (by decide +kernel)
theorem dki1_10 : decode xm_i1.2.1 10 = .ok (.iconst 0, 1) := qP_ok (r := [(.iconst 0, 1)]) (by decide +kernel)
theorem dki1_11 : decode xm_i1.2.1 11 = .ok (.invokestatic 92, 3) := qP_ok (r := [(.invokestatic 92, 3)]) (by decide +kernel)
theorem dki1_14 : decode xm_i1.2.1 14 = .ok (.istore_n 2, 1) := qP_ok (r := [(.istore_n 2, 1)]) (by decide +kernel)
theorem dki1_15 : decode xm_i1.2.1 15 = .ok (.iload_n 3, 1) := qP_ok (r := [(.iload_n 3, 1)]) (by decide +kernel)
theorem dki1_16 : decode xm_i1.2.1 16 = .ok (.aload_n 0, 1) := qP_ok (r := [(.aload_n 0, 1)]) (by decide +kernel)
theorem dki1_17 : decode xm_i1.2.1 17 = .ok (.arraylength, 1) := qP_ok (r := [(.arraylength, 1)]) (by decide +kernel)
theorem dki1_18 : decode xm_i1.2.1 18 = .ok (.invokestatic 38, 3) := qP_ok (r := [(.invokestatic 38, 3)]) (by decide +kernel)
theorem dki1_21 : decode xm_i1.2.1 21 = .ok (.istore_n 3, 1) := qP_ok (r := [(.istore_n 3, 1)]) (by decide +kernel)
theorem dki1_22 : decode xm_i1.2.1 22 = .ok (.iload_n 2, 1) := qP_ok (r := [(.iload_n 2, 1)]) (by decide +kernel)
theorem dki1_23 : decode xm_i1.2.1 23 = .ok (.iload_n 3, 1) := qP_ok (r := [(.iload_n 3, 1)]) (by decide +kernel)
theorem dki1_24 : decode xm_i1.2.1 24 = .ok (.if_icmp .lt 5, 3) := qP_ok (r := [(.if_icmp .lt 5, 3)]) (by decide +kernel)
theorem dki1_27 : decode xm_i1.2.1 27 = .ok (.iconst (-1), 1) := qP_ok (r := [(.iconst (-1), 1)]) (by decide +kernel)
theorem dki1_28 : decode xm_i1.2.1 28 = .ok (.ireturn, 1) := qP_ok (r := [(.ireturn, 1)]) (by decide +kernel)
theorem dki1_29 : decode xm_i1.2.1 29 = .ok (.aload_n 0, 1) := qP_ok (r := [(.aload_n 0, 1)]) (by decide +kernel)
theorem dki1_30 : decode xm_i1.2.1 30 = .ok (.iload_n 1, 1) := qP_ok (r := [(.iload_n 1, 1)]) (by decide +kernel)
theorem dki1_31 : decode xm_i1.2.1 31 = .ok (.iload_n 2, 1) := qP_ok (r := [(.iload_n 2, 1)]) (by decide +kernel)
theorem dki1_32 : decode xm_i1.2.1 32 = .ok (.iload_n 3, 1) := qP_ok (r := [(.iload_n 3, 1)]) (by decide +kernel)
theorem dki1_33 : decode xm_i1.2.1 33 = .ok (.invokestatic 95, 3) := qP_ok (r := [(.invokestatic 95, 3)]) (by decide +kernel)
theorem dki1_36 : decode xm_i1.2.1 36 = .ok (.ireturn, 1) := qP_ok (r := [(.ireturn, 1)]) (by decide +kernel)
theorem dki2_0 : decode xm_i2.2.1 0 = .ok (.aload_n 0, 1) := qP_ok (r := [(.aload_n 0, 1)]) (by decide +kernel)
theorem dki2_1 : decode xm_i2.2.1 1 = .ok (.invokevirtual 492, 3) := qP_ok (r := [(.invokevirtual 492, 3)]) (by decide +kernel)
theorem dki2_4 : decode xm_i2.2.1 4 = .ok (.ifCond .eq 19, 3) := qP_ok (r := [(.ifCond .eq 19, 3)]) (by decide +kernel)
theorem dki2_7 : decode xm_i2.2.1 7 = .ok (.aload_n 0, 1) := qP_ok (r := [(.aload_n 0, 1)]) (by decide +kernel)
theorem dki2_8 : decode xm_i2.2.1 8 = .ok (.getfield 9, 3) := qP_ok (r := [(.getfield 9, 3)]) (by decide +kernel)
theorem dki2_11 : decode xm_i2.2.1 11 = .ok (.iload_n 1, 1) := qP_ok (r := [(.iload_n 1, 1)]) (by decide +kernel)
theorem dki2_12 : decode xm_i2.2.1 12 = .ok (.iload_n 2, 1) := qP_ok (r := [(.iload_n 2, 1)]) (by decide +kernel)
theorem dki2_13 : decode xm_i2.2.1 13 = .ok (.aload_n 0, 1) := qP_ok (r := [(.aload_n 0, 1)]) (by decide +kernel)
theorem dki2_14 : decode xm_i2.2.1 14 = .ok (.invokevirtual 505, 3) := qP_ok (r := [(.invokevirtual 505, 3)]) (by decide +kernel)
theorem dki2_17 : decode xm_i2.2.1 17 = .ok (.invokestatic 637, 3) := qP_ok (r := [(.invokestatic 637, 3)]) (by decide +kernel)
theorem dki2_20 : decode xm_i2.2.1 20 = .ok (.goto 16, 3) := qP_ok (r := [(.goto 16, 3)]) (by decide +kernel)
theorem dki2_23 : decode xm_i2.2.1 23 = .ok (.aload_n 0, 1) := qP_ok (r := [(.aload_n 0, 1)]) (by decide +kernel)
theorem dki2_24 : decode xm_i2.2.1 24 = .ok (.getfield 9, 3) := qP_ok (r := [(.getfield 9, 3)]) (by decide +kernel)
theorem dki2_27 : decode xm_i2.2.1 27 = .ok (.iload_n 1, 1) := qP_ok (r := [(.iload_n 1, 1)]) (by decide +kernel)
theorem dki2_28 : decode xm_i2.2.1 28 = .ok (.iload_n 2, 1) := qP_ok (r := [(.iload_n 2, 1)]) (by decide +kernel)
theorem dki2_29 : decode xm_i2.2.1 29 = .ok (.aload_n 0, 1) := qP_ok (r := [(.aload_n 0, 1)]) (by decide +kernel)
theorem dki2_30 : decode xm_i2.2.1 30 = .ok (.invokevirtual 505, 3) := qP_ok (r := [(.invokevirtual 505, 3)]) (by decide +kernel)
theorem dki2_33 : decode xm_i2.2.1 33 = .ok (.invokestatic 640, 3) := qP_ok (r := [(.invokestatic 640, 3)]) (by decide +kernel)
theorem dki2_36 : decode xm_i2.2.1 36 = .ok (.ireturn, 1) := qP_ok (r := [(.ireturn, 1)]) (by decide +kernel)
theorem dkix_0 : decode xm_ix.2.1 0 = .ok (.aload_n 0, 1) := qP_ok (r := [(.aload_n 0, 1)]) (by decide +kernel)
theorem dkix_1 : decode xm_ix.2.1 1 = .ok (.iload_n 1, 1) := qP_ok (r := [(.iload_n 1, 1)]) (by decide +kernel)
theorem dkix_2 : decode xm_ix.2.1 2 = .ok (.iconst 0, 1) := qP_ok (r := [(.iconst 0, 1)]) (by decide +kernel)
theorem dkix_3 : decode xm_ix.2.1 3 = .ok (.invokevirtual 633, 3) := qP_ok (r := [(.invokevirtual 633, 3)]) (by decide +kernel)
theorem dkix_6 : decode xm_ix.2.1 6 = .ok (.ireturn, 1) := qP_ok (r := [(.ireturn, 1)]) (by decide +kernel)
theorem dkw_0 : decode xm_118.2.1 0 = .ok (.iload_n 0, 1) := qP_ok (r := [(.iload_n 0, 1)]) (by decide +kernel)
theorem dkw_1 : decode xm_118.2.1 1 = .ok (.tableswitch 50 0 4 #[35, 38, 41, 44, 47], 35) := by decide +kernel
theorem dkw_36 : decode xm_118.2.1 36 = .ok (.ldc 98, 2) := qP_ok (r := [(.ldc 98, 2)]) (by decide +kernel)
theorem dkw_38 : decode xm_118.2.1 38 = .ok (.areturn, 1) := qP_ok (r := [(.areturn, 1)]) (by decide +kernel)
theorem dkw_39 : decode xm_118.2.1 39 = .ok (.ldc 100, 2) := qP_ok (r := [(.ldc 100, 2)]) (by decide +kernel)
theorem dkw_41 : decode xm_118.2.1 41 = .ok (.areturn, 1) := qP_ok (r := [(.areturn, 1)]) (by decide +kernel)
theorem dkw_42 : decode xm_118.2.1 42 = .ok (.ldc 102, 2) := qP_ok (r := [(.ldc 102, 2)]) (by decide +kernel)
theorem dkw_44 : decode xm_118.2.1 44 = .ok (.areturn, 1) := qP_ok (r := [(.areturn, 1)]) (by decide +kernel)
theorem dkw_45 : decode xm_118.2.1 45 = .ok (.ldc 104, 2) := qP_ok (r := [(.ldc 104, 2)]) (by decide +kernel)
theorem dkw_47 : decode xm_118.2.1 47 = .ok (.areturn, 1) := qP_ok (r := [(.areturn, 1)]) (by decide +kernel)
theorem dkw_48 : decode xm_118.2.1 48 = .ok (.ldc 106, 2) := qP_ok (r := [(.ldc 106, 2)]) (by decide +kernel)
theorem dkw_50 : decode xm_118.2.1 50 = .ok (.areturn, 1) := qP_ok (r := [(.areturn, 1)]) (by decide +kernel)
theorem dkw_51 : decode xm_118.2.1 51 = .ok (.ldc 108, 2) := qP_ok (r := [(.ldc 108, 2)]) (by decide +kernel)
theorem dkw_53 : decode xm_118.2.1 53 = .ok (.areturn, 1) := qP_ok (r := [(.areturn, 1)]) (by decide +kernel)
theorem dki_0 : decode xm_119.2.1 0 = .ok (.iload_n 3, 1) := qP_ok (r := [(.iload_n 3, 1)]) (by decide +kernel)
theorem dki_1 : decode xm_119.2.1 1 = .ok (.iload_n 2, 1) := qP_ok (r := [(.iload_n 2, 1)]) (by decide +kernel)
theorem dki_2 : decode xm_119.2.1 2 = .ok (.isub, 1) := qP_ok (r := [(.isub, 1)]) (by decide +kernel)
theorem dki_3 : decode xm_119.2.1 3 = .ok (.aload_n 1, 1) := qP_ok (r := [(.aload_n 1, 1)]) (by decide +kernel)
theorem dki_4 : decode xm_119.2.1 4 = .ok (.invokevirtual 89, 3) := qP_ok (r := [(.invokevirtual 89, 3)]) (by decide +kernel)
theorem dki_7 : decode xm_119.2.1 7 = .ok (.if_icmp .eq 5, 3) := qP_ok (r := [(.if_icmp .eq 5, 3)]) (by decide +kernel)
theorem dki_10 : decode xm_119.2.1 10 = .ok (.iconst 0, 1) := qP_ok (r := [(.iconst 0, 1)]) (by decide +kernel)
theorem dki_11 : decode xm_119.2.1 11 = .ok (.ireturn, 1) := qP_ok (r := [(.ireturn, 1)]) (by decide +kernel)
theorem dki_12 : decode xm_119.2.1 12 = .ok (.iconst 0, 1) := qP_ok (r := [(.iconst 0, 1)]) (by decide +kernel)
theorem dki_13 : decode xm_119.2.1 13 = .ok (.istore 4, 2) := qP_ok (r := [(.istore 4, 2)]) (by decide +kernel)
theorem dki_15 : decode xm_119.2.1 15 = .ok (.iload 4, 2) := qP_ok (r := [(.iload 4, 2)]) (by decide +kernel)
theorem dki_17 : decode xm_119.2.1 17 = .ok (.aload_n 1, 1) := qP_ok (r := [(.aload_n 1, 1)]) (by decide +kernel)
theorem dki_18 : decode xm_119.2.1 18 = .ok (.invokevirtual 89, 3) := qP_ok (r := [(.invokevirtual 89, 3)]) (by decide +kernel)
theorem dki_21 : decode xm_119.2.1 21 = .ok (.if_icmp .ge 29, 3) := qP_ok (r := [(.if_icmp .ge 29, 3)]) (by decide +kernel)
theorem dki_24 : decode xm_119.2.1 24 = .ok (.aload_n 0, 1) := qP_ok (r := [(.aload_n 0, 1)]) (by decide +kernel)
theorem dki_25 : decode xm_119.2.1 25 = .ok (.getfield 9, 3) := qP_ok (r := [(.getfield 9, 3)]) (by decide +kernel)
theorem dki_28 : decode xm_119.2.1 28 = .ok (.iload_n 2, 1) := qP_ok (r := [(.iload_n 2, 1)]) (by decide +kernel)
theorem dki_29 : decode xm_119.2.1 29 = .ok (.iload 4, 2) := qP_ok (r := [(.iload 4, 2)]) (by decide +kernel)
theorem dki_31 : decode xm_119.2.1 31 = .ok (.iadd, 1) := qP_ok (r := [(.iadd, 1)]) (by decide +kernel)
theorem dki_32 : decode xm_119.2.1 32 = .ok (.iaload, 1) := qP_ok (r := [(.iaload, 1)]) (by decide +kernel)
theorem dki_33 : decode xm_119.2.1 33 = .ok (.aload_n 1, 1) := qP_ok (r := [(.aload_n 1, 1)]) (by decide +kernel)
theorem dki_34 : decode xm_119.2.1 34 = .ok (.iload 4, 2) := qP_ok (r := [(.iload 4, 2)]) (by decide +kernel)
theorem dki_36 : decode xm_119.2.1 36 = .ok (.invokevirtual 94, 3) := qP_ok (r := [(.invokevirtual 94, 3)]) (by decide +kernel)
theorem dki_39 : decode xm_119.2.1 39 = .ok (.if_icmp .eq 5, 3) := qP_ok (r := [(.if_icmp .eq 5, 3)]) (by decide +kernel)
theorem dki_42 : decode xm_119.2.1 42 = .ok (.iconst 0, 1) := qP_ok (r := [(.iconst 0, 1)]) (by decide +kernel)
theorem dki_43 : decode xm_119.2.1 43 = .ok (.ireturn, 1) := qP_ok (r := [(.ireturn, 1)]) (by decide +kernel)
theorem dki_44 : decode xm_119.2.1 44 = .ok (.iinc 4 1, 3) := qP_ok (r := [(.iinc 4 1, 3)]) (by decide +kernel)
theorem dki_47 : decode xm_119.2.1 47 = .ok (.goto (-32), 3) := qP_ok (r := [(.goto (-32), 3)]) (by decide +kernel)
theorem dki_50 : decode xm_119.2.1 50 = .ok (.iconst 1, 1) := qP_ok (r := [(.iconst 1, 1)]) (by decide +kernel)
theorem dki_51 : decode xm_119.2.1 51 = .ok (.ireturn, 1) := qP_ok (r := [(.ireturn, 1)]) (by decide +kernel)
theorem dkb_0 : decode xm_117.2.1 0 = .ok (.iconst 0, 1) := qP_ok (r := [(.iconst 0, 1)]) (by decide +kernel)
theorem dkb_1 : decode xm_117.2.1 1 = .ok (.istore_n 3, 1) := qP_ok (r := [(.istore_n 3, 1)]) (by decide +kernel)
theorem dkb_2 : decode xm_117.2.1 2 = .ok (.iload_n 3, 1) := qP_ok (r := [(.iload_n 3, 1)]) (by decide +kernel)
theorem dkb_3 : decode xm_117.2.1 3 = .ok (.bipush 6, 2) := qP_ok (r := [(.bipush 6, 2)]) (by decide +kernel)
theorem dkb_5 : decode xm_117.2.1 5 = .ok (.if_icmp .ge 24, 3) := qP_ok (r := [(.if_icmp .ge 24, 3)]) (by decide +kernel)
theorem dkb_8 : decode xm_117.2.1 8 = .ok (.aload_n 0, 1) := qP_ok (r := [(.aload_n 0, 1)]) (by decide +kernel)
theorem dkb_9 : decode xm_117.2.1 9 = .ok (.iload_n 3, 1) := qP_ok (r := [(.iload_n 3, 1)]) (by decide +kernel)
theorem dkb_10 : decode xm_117.2.1 10 = .ok (.invokestatic 81, 3) := qP_ok (r := [(.invokestatic 81, 3)]) (by decide +kernel)
theorem dkb_13 : decode xm_117.2.1 13 = .ok (.iload_n 1, 1) := qP_ok (r := [(.iload_n 1, 1)]) (by decide +kernel)
theorem dkb_14 : decode xm_117.2.1 14 = .ok (.iload_n 2, 1) := qP_ok (r := [(.iload_n 2, 1)]) (by decide +kernel)
theorem dkb_15 : decode xm_117.2.1 15 = .ok (.invokevirtual 85, 3) := qP_ok (r := [(.invokevirtual 85, 3)]) (by decide +kernel)
theorem dkb_18 : decode xm_117.2.1 18 = .ok (.ifCond .eq 5, 3) := qP_ok (r := [(.ifCond .eq 5, 3)]) (by decide +kernel)
theorem dkb_21 : decode xm_117.2.1 21 = .ok (.iload_n 3, 1) := qP_ok (r := [(.iload_n 3, 1)]) (by decide +kernel)
theorem dkb_22 : decode xm_117.2.1 22 = .ok (.ireturn, 1) := qP_ok (r := [(.ireturn, 1)]) (by decide +kernel)
theorem dkb_23 : decode xm_117.2.1 23 = .ok (.iinc 3 1, 3) := qP_ok (r := [(.iinc 3 1, 3)]) (by decide +kernel)
theorem dkb_26 : decode xm_117.2.1 26 = .ok (.goto (-24), 3) := qP_ok (r := [(.goto (-24), 3)]) (by decide +kernel)
theorem dkb_29 : decode xm_117.2.1 29 = .ok (.ldc 63, 2) := qP_ok (r := [(.ldc 63, 2)]) (by decide +kernel)
theorem dkb_31 : decode xm_117.2.1 31 = .ok (.ireturn, 1) := qP_ok (r := [(.ireturn, 1)]) (by decide +kernel)
theorem dkn_0 : decode xm_121.2.1 0 = .ok (.iload_n 0, 1) := qP_ok (r := [(.iload_n 0, 1)]) (by decide +kernel)
theorem dkn_1 : decode xm_121.2.1 1 = .ok (.tableswitch 47 1 5 #[35, 38, 41, 47, 44], 35) := by decide +kernel
theorem dkn_36 : decode xm_121.2.1 36 = .ok (.ldc 110, 2) := qP_ok (r := [(.ldc 110, 2)]) (by decide +kernel)
theorem dkn_38 : decode xm_121.2.1 38 = .ok (.areturn, 1) := qP_ok (r := [(.areturn, 1)]) (by decide +kernel)
theorem dkn_39 : decode xm_121.2.1 39 = .ok (.ldc 112, 2) := qP_ok (r := [(.ldc 112, 2)]) (by decide +kernel)
theorem dkn_41 : decode xm_121.2.1 41 = .ok (.areturn, 1) := qP_ok (r := [(.areturn, 1)]) (by decide +kernel)
theorem dkn_42 : decode xm_121.2.1 42 = .ok (.ldc 114, 2) := qP_ok (r := [(.ldc 114, 2)]) (by decide +kernel)
theorem dkn_44 : decode xm_121.2.1 44 = .ok (.areturn, 1) := qP_ok (r := [(.areturn, 1)]) (by decide +kernel)
theorem dkn_45 : decode xm_121.2.1 45 = .ok (.ldc 116, 2) := qP_ok (r := [(.ldc 116, 2)]) (by decide +kernel)
theorem dkn_47 : decode xm_121.2.1 47 = .ok (.areturn, 1) := qP_ok (r := [(.areturn, 1)]) (by decide +kernel)
theorem dkn_48 : decode xm_121.2.1 48 = .ok (.ldc 118, 2) := qP_ok (r := [(.ldc 118, 2)]) (by decide +kernel)
theorem dkn_50 : decode xm_121.2.1 50 = .ok (.areturn, 1) := qP_ok (r := [(.areturn, 1)]) (by decide +kernel)
theorem dkt_25 : decode xm_120.2.1 25 = .ok (.invokestatic 120, 3) := qP_ok (r := [(.invokestatic 120, 3)]) (by decide +kernel)
theorem dkt_28 : decode xm_120.2.1 28 = .ok (.iload_n 3, 1) := qP_ok (r := [(.iload_n 3, 1)]) (by decide +kernel)
theorem dkt_29 : decode xm_120.2.1 29 = .ok (.i2c, 1) := qP_ok (r := [(.i2c, 1)]) (by decide +kernel)
theorem dkt_30 : decode xm_120.2.1 30 = .ok (.invokevirtual 123, 3) := qP_ok (r := [(.invokevirtual 123, 3)]) (by decide +kernel)
def kwP (dA : Nat → ClassId) (vc : List Value) : Array Value → State → Prop := fun v U => v = vc.toArray ∧ xKA dA xTys U
/-- nothing is written, and what is answered is of S -/
def kwR (S : Option Value → Prop) : Array Value → State → Outcome → State → Prop := fun _ st o t => t.heap = st.heap ∧ ∃ v, o = .returned v ∧ S v
theorem kwP_blind {dA : Nat → ClassId} {vc : List Value} : FrameBlind (kwP dA vc) := fun a U g mk q => ⟨q.1, xKA.same (u := U) (U := U.calling g mk a) rfl rfl q.2⟩
/-- the tape's object and its bytes -/
def kiB (base : Nat) (D : va_G) (dA : Nat → ClassId) (H : Heap) : Prop := ∃ fs gs : List Value, va_at D vwCl (base + 699, .inr (9, fs)) H ∧ fs[0]? = some (.ref (base + 700)) ∧ H[base + 700]? = some (arrV (dA 0) gs.length (vp_V gs)) ∧ gs.length = 96 ∧ ∀ v ∈ gs, fits .int v = true
def kiP (base : Nat) (D : va_G) (dA : Nat → ClassId) (vc : List Value) : Array Value → State → Prop := fun v U => v = vc.toArray ∧ xKA dA xTys U ∧ va_K D vwCl [] U ∧ kiB base D dA U.heap
theorem kiP_blind {base : Nat} {D : va_G} {dA : Nat → ClassId} {vc : List Value} : FrameBlind (kiP base D dA vc) := fun a U g mk q => ⟨q.1, xKA.same (u := U) (U := U.calling g mk a) rfl rfl q.2.1, va_K.moved (u := U) (U := U.calling g mk a) (Vm.Alike.refl U.vm) q.2.2.1, q.2.2.2⟩
theorem kw_good : ∀ w ∈ xTs xTc, goodWord w = true := fun w h => xTs_good _ _ h
section KW
variable {ρ : Nat → Int32} {base n : Nat} {F : Nat → Prop} {D : va_G} {dA : Nat → ClassId} {la : Launch} {p : Program} {e : Env} {s : State} {m : MethodId} {args : Array Value} {below : List Frame} {meth : Method} {c : Code} {me mc : xM} {H : Heap} {locs : List Loc} {cells slots pc idx na : Nat} {ls : Array Slot} {rest As : List Value} {S : Option Value → Prop} {Q : State → Prop} {Pc : Array Value → State → Prop}
theorem kw_after {R : Room} {st0 : List Value} {av : Array Value} (hr : va_Run p la e R s m args below meth c H locs cells slots 0 0 (F0 m pc ls st0) rest (kwR S av) (fun _ => False)) (kk : ∀ v, S v → W p la e R s m args below meth c H locs cells slots Q (F0 m (pc + 3) ls (v.toList ++ rest))) : W p la e R s m args below meth c H locs cells slots Q (F0 m pc ls st0) := by
  intro T hT X
  obtain ⟨v, st₀, t, T', L, h0, X', hL', e1, e2, ⟨q1, w, q2, q3⟩, go⟩ := hr T hT X
  have hL : L = [] := by
    cases L with
    | nil => rfl
    | cons a l => exact absurd (hL' a List.mem_cons_self) id
  subst hL
  rw [List.append_nil] at X'
  cases q2
  obtain ⟨t2, a1, b1⟩ := kk v q3 T' (e1.trans (q1.trans h0)) X'
  exact ⟨t2, go t2 a1, b1⟩
/-- what holds in a frame of these methods -/
def kwC (p : Program) (s : State) (m : MethodId) (args : Array Value) (c : Code) (me : xM) : Prop := p.tables.exec = Jvm.exec ∧ c.code = me.2.1 ∧ c.maxLocals = me.2.2.1 ∧ s.vm.findClass me.1.cls = some m.cls ∧ (∀ w ∈ xWs (xTs xTc) me, w.before args s = true)
def kwO (me mc : xM) (idx n : Nat) : Prop := Jvm.Cond.code mc.1 mc.2.1 mc.2.2.1 mc.2.2.2.1 ∈ xTs xTc ∧ Jvm.Cond.initialized mc.1.cls ∈ xTs xTc ∧ Jvm.Cond.methodLink me.1.cls idx mc.1 ∈ xTs xTc ∧ (mc.1.cls ≠ "java/lang/invoke/MethodHandle" ∧ mc.1.cls ≠ "java/lang/invoke/VarHandle" ∧ (parseMethodDescriptor mc.1.desc).map (fun d => d.parameters.length) = some n) ∧ ((xR mc).frames + 1 ≤ (xR me).frames ∧ 8 + (mc.2.2.1 + 11) + (xR mc).locals ≤ (xR me).locals) ∧ (xR mc).cells = 0 ∧ (xR mc).slots = 0
theorem kw_V {b9 : Nat} (C : kwC p s m args c me) (ok : kwO me mc idx na) (w4 : Jvm.Cond.instanceMethod mc.1 ∈ xTs xTc) (w5 : Jvm.Cond.selects mc.1.cls mc.1 mc.1 ∈ xTs xTc) (hM : Met la mc.1 (xWs (xTs xTc) mc) (xR mc) Pc (kwR S) 0 0 (fun _ => False)) (hbl : FrameBlind Pc) (hrv : ∃ cell : Cell, H[b9]? = some cell ∧ cell.vm.isStatics = false ∧ s.vm.findClass mc.1.cls = some cell.cls) (hPc : ∀ U : State, U.heap = H → s.WarmedH U.vm → Pc (Value.ref b9 :: As).toArray U) (hn : As.length = na) (hls : ls.size = me.2.2.1) (hrm : (rest.map fun v => v.category).sum ≤ 8) (hd : decode me.2.1 pc = .ok (.invokevirtual idx, 3)) (hf : cells ≤ (xR me).cells ∧ slots ≤ (xR me).slots) (kk : ∀ v, S v → W p la e (xR me) s m args below meth c H locs cells slots Q (F0 m (pc + 3) ls (v.toList ++ rest))) : W p la e (xR me) s m args below meth c H locs cells slots Q (F0 m pc ls (As.reverse ++ .ref b9 :: rest)) := by
  obtain ⟨hx, hb, hml, hown, hts⟩ := C
  obtain ⟨w1, w2, w3, hmh, hroom, z1, z2⟩ := ok
  have hw : ∀ w ∈ xTs xTc, w.before args s = true := fun w q => hts w (List.mem_cons_of_mem _ q)
  exact kw_after (va_runV (g := F0 m pc ls (As.reverse ++ .ref b9 :: rest)) ⟨hx, hb, hml, hown, hts⟩ hM ⟨callB_of na hts (xGoodIn kw_good w1) rfl z1 z2 (hw _ w2) (hw _ w3) hmh hroom, hw _ w4, hw _ w5⟩ ⟨hbl, hrv, hPc⟩ rfl hn hls rfl (lv_room hrm) hd hf) kk
theorem kw_S (C : kwC p s m args c me) (ok : kwO me mc idx na) (w4 : Jvm.Cond.static mc.1 ∈ xTs xTc) (hM : Met la mc.1 (xWs (xTs xTc) mc) (xR mc) Pc (kwR S) 0 0 (fun _ => False)) (hbl : FrameBlind Pc) (hPc : ∀ U : State, U.heap = H → s.WarmedH U.vm → Pc As.toArray U) (hn : As.length = na) (hls : ls.size = me.2.2.1) (hrm : (rest.map fun v => v.category).sum ≤ 8) (hd : decode me.2.1 pc = .ok (.invokestatic idx, 3)) (hf : cells ≤ (xR me).cells ∧ slots ≤ (xR me).slots) (kk : ∀ v, S v → W p la e (xR me) s m args below meth c H locs cells slots Q (F0 m (pc + 3) ls (v.toList ++ rest))) : W p la e (xR me) s m args below meth c H locs cells slots Q (F0 m pc ls (As.reverse ++ rest)) := by
  obtain ⟨hx, hb, hml, hown, hts⟩ := C
  obtain ⟨w1, w2, w3, hmh, hroom, z1, z2⟩ := ok
  have hw : ∀ w ∈ xTs xTc, w.before args s = true := fun w q => hts w (List.mem_cons_of_mem _ q)
  exact kw_after (va_runS (g := F0 m pc ls (As.reverse ++ rest)) ⟨hx, hb, hml, hown, hts⟩ hM ⟨callB_of na hts (xGoodIn kw_good w1) rfl z1 z2 (hw _ w2) (hw _ w3) hmh hroom, hw _ w4⟩ ⟨hbl, hPc⟩ rfl hn hls rfl (lv_room hrm) hd hf) kk
theorem kw_none {P : Loc → Prop} : ∀ q ∈ ([] : List Loc), P q := fun _ h => absurd h List.not_mem_nil
theorem kw_KA {vc : List Value} (hKA : xKA dA xTys s) : ∀ U : State, U.heap = s.heap → s.WarmedH U.vm → kwP dA vc vc.toArray U := fun U hU hW => ⟨rfl, xKA.warm hW (fun q _ _ => by rw [hU]) hKA⟩
theorem kw_KH {vc : List Value} {h : xH} {nn : Nat} (hH : xHR ρ base F D dA xTys vwCl h nn H) (hL : va_S F s.heap H locs) (hKA : xKA dA xTys s) : ∀ U : State, U.heap = H → s.WarmedH U.vm → kwP dA vc vc.toArray U := fun U hU hWm => ⟨rfl, xKA.warm hWm (fun q g1 g2 => by rw [hU]; exact hL.2.1 q g1 (fun f => g2 (hH.1.2.2.2 q f))) hKA⟩
theorem kw_recv {i : Nat} (hKA : xKA dA xTys s) (hi : i < 11) : ∃ cell : Cell, s.heap[dA (1000 + i)]? = some cell ∧ cell.vm.isStatics = false ∧ s.vm.findClass "java/lang/String" = some cell.cls := by
  obtain ⟨cell, g1, g2, g3, -⟩ := (hKA.2.2.1.1 i hi).1
  exact ⟨cell, g1, g2, g3⟩
theorem kw_coder (i : Nat) (hi : i < 11) : Met la xm_c.1 (xWs (xTs xTc) xm_c) (xR xm_c) (kwP dA [.ref (dA (1000 + i))]) (kwR (fun v => v = some (.int 0))) 0 0 (fun _ => False) := by
  refine Met.ofW (cc := xm_c.2.1) (maxL := 1) (ret := some .byte) (by decide +kernel) rfl ?_
  intro p e s m args below meth c s₁ B hml hP
  obtain ⟨rfl, hKA⟩ := hP
  have hts := atoms_spec (ws := xWs (xTs xTc) xm_c) B.pre
  have hw : ∀ w ∈ xTs xTc, w.before _ s = true := fun w q => hts w (List.mem_cons_of_mem _ q)
  have hx := B.exec
  have hb : c.code = xm_c.2.1 := B.bytes
  have hown : s.vm.findClass "java/lang/String" = some m.cls := findClass_of_methodNamed B.named
  have hl := lv_entry [Value.ref (dA (1000 + i))] (n := 1) (Nat.le_refl _)
  rw [lg_entry_eq]
  refine va_gets hx hb hKA.2.2.2.2.1 va_S.rf hown (hw _ (xwg_of (i := 13407) (by decide +kernel))) (fun _ h => h) dkc_0 ?_
  refine lv_if_eq (tgt := 13) hx hb dkc_3 (by decide) (fun q => absurd q (by decide)) (fun _ => ?_)
  refine lv_aload_n hx hb dkc_6 rfl (lv_at hl 0 rfl) ?_
  refine vk_getf hx hb (hKA.2.2.1.1 i hi).2.1 va_S.rf hown (hw _ (xwg_of (i := 19505) (by decide +kernel))) (fun _ h => h) dkc_7 ?_
  refine lv_goto (tgt := 14) hx hb dkc_10 (by decide) ?_
  exact W.zret hx hb B.returns (by decide) (fun t ht _ => ⟨ht, _, rfl, rfl⟩) kw_none dkc_14 B.notSynchronized
theorem kw_lat (i : Nat) (hi : i < 11) : Met la xm_la.1 (xWs (xTs xTc) xm_la) (xR xm_la) (kwP dA [.ref (dA (1000 + i))]) (kwR (fun v => v = some (.int 1))) 0 0 (fun _ => False) := by
  refine Met.ofW (cc := xm_la.2.1) (maxL := 1) (ret := some .boolean) (by decide +kernel) rfl ?_
  intro p e s m args below meth c s₁ B hml hP
  obtain ⟨rfl, hKA⟩ := hP
  have hts := atoms_spec (ws := xWs (xTs xTc) xm_la) B.pre
  have hw : ∀ w ∈ xTs xTc, w.before _ s = true := fun w q => hts w (List.mem_cons_of_mem _ q)
  have hx := B.exec
  have hb : c.code = xm_la.2.1 := B.bytes
  have hown : s.vm.findClass "java/lang/String" = some m.cls := findClass_of_methodNamed B.named
  have hl := lv_entry [Value.ref (dA (1000 + i))] (n := 1) (Nat.le_refl _)
  rw [lg_entry_eq]
  refine va_gets hx hb hKA.2.2.2.2.1 va_S.rf hown (hw _ (xwg_of (i := 13407) (by decide +kernel))) (fun _ h => h) dkla_0 ?_
  refine lv_if_eq (tgt := 17) hx hb dkla_3 (by decide) (fun q => absurd q (by decide)) (fun _ => ?_)
  refine lv_aload_n hx hb dkla_6 rfl (lv_at hl 0 rfl) ?_
  refine vk_getf hx hb (hKA.2.2.1.1 i hi).2.1 va_S.rf hown (hw _ (xwg_of (i := 19505) (by decide +kernel))) (fun _ h => h) dkla_7 ?_
  refine lv_if_ne (tgt := 17) hx hb dkla_10 (by decide) (fun q => absurd rfl q) (fun _ => ?_)
  refine lv_iconst (v := 1) hx hb dkla_13 (by decide) ?_
  refine lv_goto (tgt := 18) hx hb dkla_14 (by decide) ?_
  exact W.zret hx hb B.returns (by decide) (fun t ht _ => ⟨ht, _, rfl, rfl⟩) kw_none dkla_18 B.notSynchronized
theorem kw_ok_l_c : kwO xm_l xm_c 335 0 := ⟨(xwg_of (i := 13406) (by decide +kernel)), (xwg_of (i := 9233) (by decide +kernel)), (xwg_of (i := 13403) (by decide +kernel)), by decide +kernel, by decide +kernel, rfl, rfl⟩
theorem kw_len0 : ∀ i, i < 11 → Int32.ofNat (xsl.getD i 0) >>> ((0 : Int32) &&& 31) = nI (xsl.getD i 0) := by decide
theorem kw_length (i : Nat) (hi : i < 11) : Met la xm_l.1 (xWs (xTs xTc) xm_l) (xR xm_l) (kwP dA [.ref (dA (1000 + i))]) (kwR (fun v => v = some (.int (nI (xsl.getD i 0))))) 0 0 (fun _ => False) := by
  refine Met.ofW (cc := xm_l.2.1) (maxL := 1) (ret := some .int) (by decide +kernel) rfl ?_
  intro p e s m args below meth c s₁ B hml hP
  obtain ⟨rfl, hKA⟩ := hP
  have hts := atoms_spec (ws := xWs (xTs xTc) xm_l) B.pre
  have hw : ∀ w ∈ xTs xTc, w.before _ s = true := fun w q => hts w (List.mem_cons_of_mem _ q)
  have hx := B.exec
  have hb : c.code = xm_l.2.1 := B.bytes
  have hown : s.vm.findClass "java/lang/String" = some m.cls := findClass_of_methodNamed B.named
  have hl := lv_entry [Value.ref (dA (1000 + i))] (n := 1) (Nat.le_refl _)
  rw [lg_entry_eq]
  obtain ⟨hO, -, hV, hT⟩ := hKA.2.2.1.1 i hi
  refine lv_aload_n hx hb dkl_0 rfl (lv_at hl 0 rfl) ?_
  refine vk_getf hx hb hV va_S.rf hown (hw _ (xwg_of (i := 19504) (by decide +kernel))) (fun _ h => h) dkl_1 ?_
  refine va_tlen hx hb hT va_S.rf rfl dkl_4 ?_
  refine lv_aload_n hx hb dkl_5 rfl (lv_at hl 0 rfl) ?_
  refine kw_V (me := xm_l) (mc := xm_c) (As := []) ⟨hx, hb, hml, hown, hts⟩ kw_ok_l_c (xwg_of (i := 13404) (by decide +kernel)) (xwg_of (i := 13405) (by decide +kernel)) (kw_coder i hi) kwP_blind (kw_recv hKA hi) (kw_KA hKA) rfl hl.1 (show (1 : Nat) + 0 ≤ 8 by decide) dkl_6 ⟨Nat.le_refl _, Nat.le_refl _⟩ (fun v hv => ?_)
  subst hv
  refine lv_ishr hx hb dkl_9 ?_
  exact W.zret hx hb B.returns rfl (fun t ht _ => ⟨ht, _, rfl, by rw [kw_len0 i hi]⟩) kw_none dkl_10 B.notSynchronized
/-- an index that is right -/
theorem kw_chk (j N : Nat) (hj : j < N) (hN : N < 2 ^ 31) (vq : Value) (hq : vq = .null ∨ ∃ t, vq = .ref t) : Met la xm_pi.1 (xWs (xTs xTc) xm_pi) (xR xm_pi) (kwP dA [.int (nI j), .int (nI N), vq]) (kwR (fun v => v = some (.int (nI j)))) 0 0 (fun _ => False) := by
  refine Met.ofW (cc := xm_pi.2.1) (maxL := 3) (ret := some .int) (by decide +kernel) rfl ?_
  intro p e s m args below meth c s₁ B hml hP
  obtain ⟨rfl, hKA⟩ := hP
  have hx := B.exec
  have hb : c.code = xm_pi.2.1 := B.bytes
  have hl : lv_has ((lg_sl [Value.int (nI j), .int (nI N), vq] ++ List.replicate (3 - (lg_sl [Value.int (nI j), .int (nI N), vq]).length) Slot.unset).toArray) 3 [(0, .int (nI j)), (1, .int (nI N)), (2, vq)] := by
    rcases hq with rfl | ⟨t, rfl⟩
    · exact lv_entry [Value.int (nI j), .int (nI N), .null] (n := 3) (Nat.le_refl _)
    · exact lv_entry [Value.int (nI j), .int (nI N), .ref t] (n := 3) (Nat.le_refl _)
  rw [lg_entry_eq]
  refine lv_iload_n hx hb dkpi_0 rfl (lv_at hl 0 rfl) ?_
  refine lv_if_lt (tgt := 9) hx hb dkpi_1 (by decide) (fun q => absurd q (nI_pos (by omega))) (fun _ => ?_)
  refine lv_iload_n hx hb dkpi_4 rfl (lv_at hl 0 rfl) ?_
  refine lv_iload_n hx hb dkpi_5 rfl (lv_at hl 1 rfl) ?_
  refine lv_icmp_lt (tgt := 16) hx hb dkpi_6 (by decide) (fun _ => ?_) (fun q => absurd (nI_lt hj hN) q)
  refine lv_iload_n hx hb dkpi_16 rfl (lv_at hl 0 rfl) ?_
  exact W.zret hx hb B.returns rfl (fun t ht _ => ⟨ht, _, rfl, rfl⟩) kw_none dkpi_17 B.notSynchronized
theorem kw_ok_ci_pi : kwO xm_ci xm_pi 1059 3 := ⟨(xwg_of (i := 13427) (by decide +kernel)), (xwg_of (i := 9235) (by decide +kernel)), (xwg_of (i := 13425) (by decide +kernel)), by decide +kernel, by decide +kernel, rfl, rfl⟩
theorem kw_chk2 (j N : Nat) (hj : j < N) (hN : N < 2 ^ 31) : Met la xm_ci.1 (xWs (xTs xTc) xm_ci) (xR xm_ci) (kwP dA [.int (nI j), .int (nI N)]) (kwR (fun v => v = none)) 0 0 (fun _ => False) := by
  refine Met.ofW (cc := xm_ci.2.1) (maxL := 2) (ret := none) (by decide +kernel) rfl ?_
  intro p e s m args below meth c s₁ B hml hP
  obtain ⟨rfl, hKA⟩ := hP
  have hts := atoms_spec (ws := xWs (xTs xTc) xm_ci) B.pre
  have hw : ∀ w ∈ xTs xTc, w.before _ s = true := fun w q => hts w (List.mem_cons_of_mem _ q)
  have hx := B.exec
  have hb : c.code = xm_ci.2.1 := B.bytes
  have hown : s.vm.findClass "java/lang/String" = some m.cls := findClass_of_methodNamed B.named
  have hl := lv_entry [Value.int (nI j), .int (nI N)] (n := 2) (Nat.le_refl _)
  rw [lg_entry_eq]
  refine lv_iload_n hx hb dkci_0 rfl (lv_at hl 0 rfl) ?_
  refine lv_iload_n hx hb dkci_1 rfl (lv_at hl 1 rfl) ?_
  have key : ∀ vq : Value, (vq = .null ∨ ∃ t, vq = .ref t) → va_Z "jdk/internal/util/Preconditions" "SIOOBE_FORMATTER" "Ljava/util/function/BiFunction;" vq (fun q => dA 5000 ≤ q) s s.heap → W p la e (xR xm_ci) s m #[Value.int (nI j), .int (nI N)] below meth c s.heap [] 0 0 (MQ below (kwR (fun v => v = none)) #[Value.int (nI j), .int (nI N)] s 0 0 (fun _ => False)) (F0 m 2 ((lg_sl [Value.int (nI j), .int (nI N)] ++ List.replicate (2 - (lg_sl [Value.int (nI j), .int (nI N)]).length) Slot.unset).toArray) [.int (nI N), .int (nI j)]) := by
    intro vq hq hZ
    refine va_gets hx hb hZ va_S.rf hown (hw _ (xwg_of (i := 13423) (by decide +kernel))) (fun _ h => h) dkci_2 ?_
    refine kw_S (me := xm_ci) (mc := xm_pi) (As := [.int (nI j), .int (nI N), vq]) ⟨hx, hb, hml, hown, hts⟩ kw_ok_ci_pi (xwg_of (i := 13426) (by decide +kernel)) (kw_chk j N hj hN vq hq) kwP_blind (kw_KA hKA) rfl hl.1 (Nat.zero_le _) dkci_5 ⟨Nat.le_refl _, Nat.le_refl _⟩ (fun v hv => ?_)
    subst hv
    refine lv_pop (va := .int (nI j)) hx hb dkci_8 rfl ?_
    exact W.vret hx hb B.returns (fun t ht _ => ⟨ht, _, rfl, rfl⟩) kw_none dkci_9 B.notSynchronized
  rcases hKA.2.2.2.2.2 with hZ | ⟨t, hZ⟩
  · exact key _ (Or.inl rfl) hZ
  · exact key _ (Or.inr ⟨t, rfl⟩) hZ
def kwc (i j : Nat) : Int32 := (((xsb.getD i []).getD j 0 &&& 255).toUInt32 % 65536).toInt32
theorem kwc_char : ∀ i, i < 11 → ∀ j, j < xsl.getD i 0 → narrow .char (.int (kwc i j)) = .int (kwc i j) := by decide +kernel
theorem kw_slen : ∀ i, i < 11 → xsl.getD i 0 < 8 := by decide
theorem kw_ok_c1_ci : kwO xm_c1 xm_ci 9 2 := ⟨(xwg_of (i := 13422) (by decide +kernel)), (xwg_of (i := 9233) (by decide +kernel)), (xwg_of (i := 13420) (by decide +kernel)), by decide +kernel, by decide +kernel, rfl, rfl⟩
theorem kw_char1 (i j : Nat) (hi : i < 11) (hj : j < xsl.getD i 0) : Met la xm_c1.1 (xWs (xTs xTc) xm_c1) (xR xm_c1) (kwP dA [.ref (dA (2000 + i)), .int (nI j)]) (kwR (fun v => v = some (.int (kwc i j)))) 0 0 (fun _ => False) := by
  refine Met.ofW (cc := xm_c1.2.1) (maxL := 2) (ret := some .char) (by decide +kernel) rfl ?_
  intro p e s m args below meth c s₁ B hml hP
  obtain ⟨rfl, hKA⟩ := hP
  have hts := atoms_spec (ws := xWs (xTs xTc) xm_c1) B.pre
  have hx := B.exec
  have hb : c.code = xm_c1.2.1 := B.bytes
  have hown : s.vm.findClass "java/lang/StringLatin1" = some m.cls := findClass_of_methodNamed B.named
  have hl := lv_entry [Value.ref (dA (2000 + i)), .int (nI j)] (n := 2) (Nat.le_refl _)
  rw [lg_entry_eq]
  have hT := (hKA.2.2.1.1 i hi).2.2.2
  have h8 := kw_slen i hi
  refine lv_iload_n hx hb dkc1_0 rfl (lv_at hl 1 rfl) ?_
  refine lv_aload_n hx hb dkc1_1 rfl (lv_at hl 0 rfl) ?_
  refine va_tlen (v := nI (xsl.getD i 0)) hx hb hT va_S.rf rfl dkc1_2 ?_
  refine kw_S (me := xm_c1) (mc := xm_ci) (As := [.int (nI j), .int (nI (xsl.getD i 0))]) ⟨hx, hb, hml, hown, hts⟩ kw_ok_c1_ci (xwg_of (i := 13421) (by decide +kernel)) (kw_chk2 j _ hj (by omega)) kwP_blind (kw_KA hKA) rfl hl.1 (Nat.zero_le _) dkc1_3 ⟨Nat.le_refl _, Nat.le_refl _⟩ (fun v hv => ?_)
  subst hv
  refine lv_aload_n hx hb dkc1_6 rfl (lv_at hl 0 rfl) ?_
  refine lv_iload_n hx hb dkc1_7 rfl (lv_at hl 1 rfl) ?_
  refine va_tb (v := .int ((xsb.getD i []).getD j 0)) hx hb hT va_S.rf (vp_in_nI hj (by omega)) (by rw [nI_clamp (by omega)]) dkc1_8 ?_
  refine lv_sipush (v := 255) hx hb dkc1_9 (by decide) ?_
  refine lv_iand hx hb dkc1_12 ?_
  refine lv_i2c (v := kwc i j) hx hb dkc1_13 rfl ?_
  exact W.zret hx hb B.returns (kwc_char i hi j hj) (fun t ht _ => ⟨ht, _, rfl, rfl⟩) kw_none dkc1_14 B.notSynchronized
theorem kw_ok_ch_la : kwO xm_ch xm_la 492 0 := ⟨(xwg_of (i := 13416) (by decide +kernel)), (xwg_of (i := 9233) (by decide +kernel)), (xwg_of (i := 13413) (by decide +kernel)), by decide +kernel, by decide +kernel, rfl, rfl⟩
theorem kw_ok_ch_c1 : kwO xm_ch xm_c1 495 2 := ⟨(xwg_of (i := 13419) (by decide +kernel)), (xwg_of (i := 9234) (by decide +kernel)), (xwg_of (i := 13417) (by decide +kernel)), by decide +kernel, by decide +kernel, rfl, rfl⟩
theorem kw_charAt (i j : Nat) (hi : i < 11) (hj : j < xsl.getD i 0) : Met la xm_ch.1 (xWs (xTs xTc) xm_ch) (xR xm_ch) (kwP dA [.ref (dA (1000 + i)), .int (nI j)]) (kwR (fun v => v = some (.int (kwc i j)))) 0 0 (fun _ => False) := by
  refine Met.ofW (cc := xm_ch.2.1) (maxL := 2) (ret := some .char) (by decide +kernel) rfl ?_
  intro p e s m args below meth c s₁ B hml hP
  obtain ⟨rfl, hKA⟩ := hP
  have hts := atoms_spec (ws := xWs (xTs xTc) xm_ch) B.pre
  have hw : ∀ w ∈ xTs xTc, w.before _ s = true := fun w q => hts w (List.mem_cons_of_mem _ q)
  have hx := B.exec
  have hb : c.code = xm_ch.2.1 := B.bytes
  have hown : s.vm.findClass "java/lang/String" = some m.cls := findClass_of_methodNamed B.named
  have hl := lv_entry [Value.ref (dA (1000 + i)), .int (nI j)] (n := 2) (Nat.le_refl _)
  rw [lg_entry_eq]
  refine lv_aload_n hx hb dkch_0 rfl (lv_at hl 0 rfl) ?_
  refine kw_V (me := xm_ch) (mc := xm_la) (As := []) ⟨hx, hb, hml, hown, hts⟩ kw_ok_ch_la (xwg_of (i := 13414) (by decide +kernel)) (xwg_of (i := 13415) (by decide +kernel)) (kw_lat i hi) kwP_blind (kw_recv hKA hi) (kw_KA hKA) rfl hl.1 (Nat.zero_le _) dkch_1 ⟨Nat.le_refl _, Nat.le_refl _⟩ (fun v hv => ?_)
  subst hv
  refine lv_if_eq (tgt := 16) hx hb dkch_4 (by decide) (fun q => absurd q (by decide)) (fun _ => ?_)
  refine lv_aload_n hx hb dkch_7 rfl (lv_at hl 0 rfl) ?_
  refine vk_getf hx hb (hKA.2.2.1.1 i hi).2.2.1 va_S.rf hown (hw _ (xwg_of (i := 19504) (by decide +kernel))) (fun _ h => h) dkch_8 ?_
  refine lv_iload_n hx hb dkch_11 rfl (lv_at hl 1 rfl) ?_
  refine kw_S (me := xm_ch) (mc := xm_c1) (As := [.ref (dA (2000 + i)), .int (nI j)]) ⟨hx, hb, hml, hown, hts⟩ kw_ok_ch_c1 (xwg_of (i := 13418) (by decide +kernel)) (kw_char1 i j hi hj) kwP_blind (kw_KA hKA) rfl hl.1 (Nat.zero_le _) dkch_12 ⟨Nat.le_refl _, Nat.le_refl _⟩ (fun v hv => ?_)
  subst hv
  exact W.zret hx hb B.returns (kwc_char i hi j hj) (fun t ht _ => ⟨ht, _, rfl, rfl⟩) kw_none dkch_15 B.notSynchronized
theorem kw_ok_i_l : kwO xm_119 xm_l 89 0 := ⟨(xwg_of (i := 13402) (by decide +kernel)), (xwg_of (i := 9233) (by decide +kernel)), (xwg_of (i := 13399) (by decide +kernel)), by decide +kernel, by decide +kernel, rfl, rfl⟩
theorem kw_ok_i_ch : kwO xm_119 xm_ch 94 1 := ⟨(xwg_of (i := 13412) (by decide +kernel)), (xwg_of (i := 9233) (by decide +kernel)), (xwg_of (i := 13409) (by decide +kernel)), by decide +kernel, by decide +kernel, rfl, rfl⟩
theorem kw_gint {gs : List Value} (hg : ∀ v ∈ gs, fits .int v = true) {j : Nat} (hj : j < gs.length) : ∃ z : Int32, (arrV (dA 0) gs.length (vp_V gs)).slots[j]? = some (.int z) := by
  rw [arrV_read _ _ hj]
  have hm : vp_V gs j ∈ gs := by
    unfold vp_V
    rw [List.getD_eq_getElem?_getD, List.getElem?_eq_getElem hj]
    exact List.getElem_mem hj
  have hf := hg _ hm
  generalize vp_V gs j = w at hf
  cases w with
  | int z => exact ⟨z, rfl⟩
  | _ => exact absurd hf (by simp [fits])
theorem kw_isWord {x1 x2 : Int} (i : Nat) (hi : i < 11) (h1 : 0 ≤ x1 ∧ x1 ≤ 96) (h2 : 0 ≤ x2 ∧ x2 ≤ 96) : Met la xm_119.1 (xWs (xTs xTc) xm_119) (xR xm_119) (kiP base D dA [.ref (base + 699), .ref (dA (1000 + i)), .int (iI x1), .int (iI x2)]) (kwR (fun v => v = some (.int 0) ∨ v = some (.int 1))) 0 0 (fun _ => False) := by
  refine Met.ofW (cc := xm_119.2.1) (maxL := 5) (ret := some .boolean) (by decide +kernel) rfl ?_
  intro p e s m args below meth c s₁ B hml hP
  obtain ⟨rfl, hKA, hK, fs, gs, hat, hf0, hg0, hgl, hgf⟩ := hP
  have hts := atoms_spec (ws := xWs (xTs xTc) xm_119) B.pre
  have hw : ∀ w ∈ xTs xTc, w.before _ s = true := fun w q => hts w (List.mem_cons_of_mem _ q)
  have hx := B.exec
  have hb : c.code = xm_119.2.1 := B.bytes
  have hown : s.vm.findClass "AcidCity$Tape" = some m.cls := findClass_of_methodNamed B.named
  have hl := lv_entry [Value.ref (base + 699), .ref (dA (1000 + i)), .int (iI x1), .int (iI x2)] (n := 5) (Nat.le_succ 4)
  rw [lg_entry_eq]
  have h8 := kw_slen i hi
  refine lv_iload_n hx hb dki_0 rfl (lv_at hl 3 rfl) ?_
  refine lv_iload_n hx hb dki_1 rfl (lv_at hl 2 rfl) ?_
  refine lv_isub hx hb dki_2 ?_
  refine lv_aload_n hx hb dki_3 rfl (lv_at hl 1 rfl) ?_
  refine kw_V (me := xm_119) (mc := xm_l) (As := []) ⟨hx, hb, hml, hown, hts⟩ kw_ok_i_l (xwg_of (i := 13400) (by decide +kernel)) (xwg_of (i := 13401) (by decide +kernel)) (kw_length i hi) kwP_blind (kw_recv hKA hi) (kw_KA hKA) rfl hl.1 (show (1 : Nat) + 0 ≤ 8 by decide) dki_4 ⟨Nat.le_refl _, Nat.le_refl _⟩ (fun v hv => ?_)
  subst hv
  refine lv_icmp_eq (tgt := 12) hx hb dki_7 (by decide) (fun q => ?_) (fun _ => ?_)
  · have hlen : x2 - x1 = (xsl.getD i 0 : Int) := by
      have q : iI x2 - iI x1 = nI (xsl.getD i 0) := q
      rw [iI_sub, ← iI_nat] at q
      exact (iI_eq ⟨by omega, by omega⟩ ⟨by omega, by omega⟩).mp q
    refine lv_iconst (v := nI 0) hx hb dki_12 (by decide) ?_
    refine lv_istore (lv' := [(4, .int (nI 0)), (0, .ref (base + 699)), (1, .ref (dA (1000 + i))), (2, .int (iI x1)), (3, .int (iI x2))]) hx hb dki_13 hl (by decide) rfl (fun ls hl => ?_)
    have loop : ∀ (k j : Nat), j + k = xsl.getD i 0 → ∀ ls : Array Slot, lv_has ls 5 [(4, .int (nI j)), (0, .ref (base + 699)), (1, .ref (dA (1000 + i))), (2, .int (iI x1)), (3, .int (iI x2))] → W p la e (xR xm_119) s m #[Value.ref (base + 699), .ref (dA (1000 + i)), .int (iI x1), .int (iI x2)] below meth c s.heap [] 0 0 (MQ below (kwR (fun v => v = some (.int 0) ∨ v = some (.int 1))) #[Value.ref (base + 699), .ref (dA (1000 + i)), .int (iI x1), .int (iI x2)] s 0 0 (fun _ => False)) (F0 m 15 ls []) := by
      intro k
      induction k with
      | zero =>
        intro j hj ls hl
        refine lv_iload hx hb dki_15 (lv_at hl 0 rfl) ?_
        refine lv_aload_n hx hb dki_17 rfl (lv_at hl 2 rfl) ?_
        refine kw_V (me := xm_119) (mc := xm_l) (As := []) ⟨hx, hb, hml, hown, hts⟩ kw_ok_i_l (xwg_of (i := 13400) (by decide +kernel)) (xwg_of (i := 13401) (by decide +kernel)) (kw_length i hi) kwP_blind (kw_recv hKA hi) (kw_KA hKA) rfl hl.1 (show (1 : Nat) + 0 ≤ 8 by decide) dki_18 ⟨Nat.le_refl _, Nat.le_refl _⟩ (fun v hv => ?_)
        subst hv
        refine lv_icmp_ge (tgt := 50) hx hb dki_21 (by decide) (fun _ => ?_) (fun q => absurd (nI_le (by omega) (by omega)) q)
        refine lv_iconst (v := 1) hx hb dki_50 (by decide) ?_
        exact W.zret hx hb B.returns (by decide) (fun t ht _ => ⟨ht, _, rfl, Or.inr rfl⟩) kw_none dki_51 B.notSynchronized
      | succ k ih =>
        intro j hj ls hl
        refine lv_iload hx hb dki_15 (lv_at hl 0 rfl) ?_
        refine lv_aload_n hx hb dki_17 rfl (lv_at hl 2 rfl) ?_
        refine kw_V (me := xm_119) (mc := xm_l) (As := []) ⟨hx, hb, hml, hown, hts⟩ kw_ok_i_l (xwg_of (i := 13400) (by decide +kernel)) (xwg_of (i := 13401) (by decide +kernel)) (kw_length i hi) kwP_blind (kw_recv hKA hi) (kw_KA hKA) rfl hl.1 (show (1 : Nat) + 0 ≤ 8 by decide) dki_18 ⟨Nat.le_refl _, Nat.le_refl _⟩ (fun v hv => ?_)
        subst hv
        refine lv_icmp_ge (tgt := 50) hx hb dki_21 (by decide) (fun q => absurd q (Int32.not_le.mpr (nI_lt (by omega) (by omega)))) (fun _ => ?_)
        refine lv_aload_n hx hb dki_24 rfl (lv_at hl 1 rfl) ?_
        refine va_get (D := D) (ci := 9) (v := .ref (base + 700)) (C := RX9) (T := TX9) (N := 11) hx hb hts (fun w hw => List.mem_cons_of_mem _ (xcl_9.1 w hw)) hown hK (xP1 hat) 0 rfl rfl 0 (by decide) (hw _ (xwg_of (i := 10393) (by decide +kernel))) (fun _ h9 => h9) hf0 dki_25 ?_
        refine lv_iload_n hx hb dki_28 rfl (lv_at hl 3 rfl) ?_
        refine lv_iload hx hb dki_29 (lv_at hl 0 rfl) ?_
        refine lv_iadd hx hb dki_31 ?_
        have ex : iI x1 + nI j = nI (x1.toNat + j) := by
          rw [← iI_nat, ← iI_nat, iI_add]
          exact congrArg iI (by omega)
        rw [ex]
        obtain ⟨z, hz⟩ := kw_gint (dA := dA) hgf (j := x1.toNat + j) (by omega)
        refine W.iald (v := .int z) hx hb hg0 ((hKA.1 0 _ rfl).1 _ _) (fun q => by cases q) (by
          rw [arrV_size, xclamp (by omega)]
          intro q
          rcases q with q | q
          · exact xneg (by omega) q
          · omega) (by rw [xclamp (by omega)]; exact hz) rfl rfl dki_32 ?_
        refine lv_aload_n hx hb dki_33 rfl (lv_at hl 2 rfl) ?_
        refine lv_iload hx hb dki_34 (lv_at hl 0 rfl) ?_
        refine kw_V (me := xm_119) (mc := xm_ch) (As := [.int (nI j)]) ⟨hx, hb, hml, hown, hts⟩ kw_ok_i_ch (xwg_of (i := 13410) (by decide +kernel)) (xwg_of (i := 13411) (by decide +kernel)) (kw_charAt i j hi (by omega)) kwP_blind (kw_recv hKA hi) (kw_KA hKA) rfl hl.1 (show (1 : Nat) + 0 ≤ 8 by decide) dki_36 ⟨Nat.le_refl _, Nat.le_refl _⟩ (fun v hv => ?_)
        subst hv
        refine lv_icmp_eq (tgt := 44) hx hb dki_39 rfl (fun _ => ?_) (fun _ => ?_)
        · refine lv_iinc (v := nI (j + 1)) (lv' := [(4, .int (nI (j + 1))), (0, .ref (base + 699)), (1, .ref (dA (1000 + i))), (2, .int (iI x1)), (3, .int (iI x2))]) hx hb dki_44 hl (k := 0) rfl (by rw [← nI_add]; rfl) (by decide) rfl (fun ls hl => ?_)
          refine lv_goto (tgt := 15) hx hb dki_47 (by decide) ?_
          exact ih (j + 1) (by omega) ls hl
        · refine lv_iconst (v := 0) hx hb dki_42 (by decide) ?_
          exact W.zret hx hb B.returns (by decide) (fun t ht _ => ⟨ht, _, rfl, Or.inl rfl⟩) kw_none dki_43 B.notSynchronized
    exact loop (xsl.getD i 0) 0 (by omega) ls hl
  · refine lv_iconst (v := 0) hx hb dki_10 (by decide) ?_
    exact W.zret hx hb B.returns (by decide) (fun t ht _ => ⟨ht, _, rfl, Or.inl rfl⟩) kw_none dki_11 B.notSynchronized
theorem kw_wordOf (i : Nat) (hi : i < 6) : Met la xm_118.1 (xWs (xTs xTc) xm_118) (xR xm_118) (kwP dA [.int (nI i)]) (kwR (fun v => v = some (.ref (dA (1000 + i))))) 0 0 (fun _ => False) := by
  refine Met.ofW (cc := xm_118.2.1) (maxL := 1) (ret := some (.object "java/lang/String")) (by decide +kernel) rfl ?_
  intro p e s m args below meth c s₁ B hml hP
  obtain ⟨rfl, hKA⟩ := hP
  have hx := B.exec
  have hb : c.code = xm_118.2.1 := B.bytes
  have hown : s.vm.findClass "AcidCity$Tape" = some m.cls := findClass_of_methodNamed B.named
  have hl := lv_entry [Value.int (nI i)] (n := 1) (Nat.le_refl _)
  rw [lg_entry_eq]
  refine lv_iload_n hx hb dkw_0 rfl (lv_at hl 0 rfl) ?_
  have hz := hKA.2.2.2.1 i (by omega)
  have h6 : i = 0 ∨ i = 1 ∨ i = 2 ∨ i = 3 ∨ i = 4 ∨ i = 5 := by omega
  rcases h6 with rfl | rfl | rfl | rfl | rfl | rfl
  · refine lv_tableIn (off := 35) (tgt := 36) hx hb dkw_1 (by decide) (by decide) (by decide) (by decide) ?_
    refine va_ldcS hx hb hown hz dkw_36 ?_
    exact W.aret hx hb B.returns (Or.inl ⟨_, rfl⟩) (Or.inr ⟨_, rfl⟩) (fun t ht _ => ⟨ht, _, rfl, rfl⟩) kw_none dkw_38 B.notSynchronized
  · refine lv_tableIn (off := 38) (tgt := 39) hx hb dkw_1 (by decide) (by decide) (by decide) (by decide) ?_
    refine va_ldcS hx hb hown hz dkw_39 ?_
    exact W.aret hx hb B.returns (Or.inl ⟨_, rfl⟩) (Or.inr ⟨_, rfl⟩) (fun t ht _ => ⟨ht, _, rfl, rfl⟩) kw_none dkw_41 B.notSynchronized
  · refine lv_tableIn (off := 41) (tgt := 42) hx hb dkw_1 (by decide) (by decide) (by decide) (by decide) ?_
    refine va_ldcS hx hb hown hz dkw_42 ?_
    exact W.aret hx hb B.returns (Or.inl ⟨_, rfl⟩) (Or.inr ⟨_, rfl⟩) (fun t ht _ => ⟨ht, _, rfl, rfl⟩) kw_none dkw_44 B.notSynchronized
  · refine lv_tableIn (off := 44) (tgt := 45) hx hb dkw_1 (by decide) (by decide) (by decide) (by decide) ?_
    refine va_ldcS hx hb hown hz dkw_45 ?_
    exact W.aret hx hb B.returns (Or.inl ⟨_, rfl⟩) (Or.inr ⟨_, rfl⟩) (fun t ht _ => ⟨ht, _, rfl, rfl⟩) kw_none dkw_47 B.notSynchronized
  · refine lv_tableIn (off := 47) (tgt := 48) hx hb dkw_1 (by decide) (by decide) (by decide) (by decide) ?_
    refine va_ldcS hx hb hown hz dkw_48 ?_
    exact W.aret hx hb B.returns (Or.inl ⟨_, rfl⟩) (Or.inr ⟨_, rfl⟩) (fun t ht _ => ⟨ht, _, rfl, rfl⟩) kw_none dkw_50 B.notSynchronized
  · refine lv_tableOut (tgt := 51) hx hb dkw_1 (Or.inr (by decide)) (by decide) ?_
    refine va_ldcS hx hb hown hz dkw_51 ?_
    exact W.aret hx hb B.returns (Or.inl ⟨_, rfl⟩) (Or.inr ⟨_, rfl⟩) (fun t ht _ => ⟨ht, _, rfl, rfl⟩) kw_none dkw_53 B.notSynchronized
theorem kw_namesOf (x : Int32) : Met la xm_121.1 (xWs (xTs xTc) xm_121) (xR xm_121) (kwP dA [.int x]) (kwR (fun v => ∃ i, i < 11 ∧ v = some (.ref (dA (1000 + i))))) 0 0 (fun _ => False) := by
  refine Met.ofW (cc := xm_121.2.1) (maxL := 1) (ret := some (.object "java/lang/String")) (by decide +kernel) rfl ?_
  intro p e s m args below meth c s₁ B hml hP
  obtain ⟨rfl, hKA⟩ := hP
  have hx := B.exec
  have hb : c.code = xm_121.2.1 := B.bytes
  have hown : s.vm.findClass "AcidCity$Tape" = some m.cls := findClass_of_methodNamed B.named
  have hl := lv_entry [Value.int x] (n := 1) (Nat.le_refl _)
  rw [lg_entry_eq]
  refine lv_iload_n hx hb dkn_0 rfl (lv_at hl 0 rfl) ?_
  have h6 : x.toInt = 1 ∨ x.toInt = 2 ∨ x.toInt = 3 ∨ x.toInt = 4 ∨ x.toInt = 5 ∨ (x.toInt < 1 ∨ 5 < x.toInt) := by omega
  rcases h6 with q | q | q | q | q | q
  · refine lv_tableIn (off := 35) (tgt := 36) hx hb dkn_1 (by omega) (by omega) (by rw [q]; decide) (by decide) ?_
    refine va_ldcS hx hb hown (hKA.2.2.2.1 6 (by decide)) dkn_36 ?_
    exact W.aret hx hb B.returns (Or.inl ⟨_, rfl⟩) (Or.inr ⟨_, rfl⟩) (fun t ht _ => ⟨ht, _, rfl, 6, by decide, rfl⟩) kw_none dkn_38 B.notSynchronized
  · refine lv_tableIn (off := 38) (tgt := 39) hx hb dkn_1 (by omega) (by omega) (by rw [q]; decide) (by decide) ?_
    refine va_ldcS hx hb hown (hKA.2.2.2.1 7 (by decide)) dkn_39 ?_
    exact W.aret hx hb B.returns (Or.inl ⟨_, rfl⟩) (Or.inr ⟨_, rfl⟩) (fun t ht _ => ⟨ht, _, rfl, 7, by decide, rfl⟩) kw_none dkn_41 B.notSynchronized
  · refine lv_tableIn (off := 41) (tgt := 42) hx hb dkn_1 (by omega) (by omega) (by rw [q]; decide) (by decide) ?_
    refine va_ldcS hx hb hown (hKA.2.2.2.1 8 (by decide)) dkn_42 ?_
    exact W.aret hx hb B.returns (Or.inl ⟨_, rfl⟩) (Or.inr ⟨_, rfl⟩) (fun t ht _ => ⟨ht, _, rfl, 8, by decide, rfl⟩) kw_none dkn_44 B.notSynchronized
  · refine lv_tableIn (off := 47) (tgt := 48) hx hb dkn_1 (by omega) (by omega) (by rw [q]; decide) (by decide) ?_
    refine va_ldcS hx hb hown (hKA.2.2.2.1 10 (by decide)) dkn_48 ?_
    exact W.aret hx hb B.returns (Or.inl ⟨_, rfl⟩) (Or.inr ⟨_, rfl⟩) (fun t ht _ => ⟨ht, _, rfl, 10, by decide, rfl⟩) kw_none dkn_50 B.notSynchronized
  · refine lv_tableIn (off := 44) (tgt := 45) hx hb dkn_1 (by omega) (by omega) (by rw [q]; decide) (by decide) ?_
    refine va_ldcS hx hb hown (hKA.2.2.2.1 9 (by decide)) dkn_45 ?_
    exact W.aret hx hb B.returns (Or.inl ⟨_, rfl⟩) (Or.inr ⟨_, rfl⟩) (fun t ht _ => ⟨ht, _, rfl, 9, by decide, rfl⟩) kw_none dkn_47 B.notSynchronized
  · refine lv_tableOut (tgt := 48) hx hb dkn_1 q (by decide) ?_
    refine va_ldcS hx hb hown (hKA.2.2.2.1 10 (by decide)) dkn_48 ?_
    exact W.aret hx hb B.returns (Or.inl ⟨_, rfl⟩) (Or.inr ⟨_, rfl⟩) (fun t ht _ => ⟨ht, _, rfl, 10, by decide, rfl⟩) kw_none dkn_50 B.notSynchronized
theorem kw_can (x : Int32) : Met la xm_ce.1 (xWs (xTs xTc) xm_ce) (xR xm_ce) (kwP dA [.int x]) (kwR (fun v => v = some (.int 0) ∨ v = some (.int 1))) 0 0 (fun _ => False) := by
  refine Met.ofW (cc := xm_ce.2.1) (maxL := 1) (ret := some .boolean) (by decide +kernel) rfl ?_
  intro p e s m args below meth c s₁ B hml hP
  obtain ⟨rfl, hKA⟩ := hP
  have hx := B.exec
  have hb : c.code = xm_ce.2.1 := B.bytes
  have hl := lv_entry [Value.int x] (n := 1) (Nat.le_refl _)
  rw [lg_entry_eq]
  refine lv_iload_n hx hb dkce_0 rfl (lv_at hl 0 rfl) ?_
  refine lv_if_lt (tgt := 15) hx hb dkce_1 (by decide) (fun _ => ?_) (fun _ => ?_)
  · refine lv_iconst (v := 0) hx hb dkce_15 (by decide) ?_
    exact W.zret hx hb B.returns (by decide) (fun t ht _ => ⟨ht, _, rfl, Or.inl rfl⟩) kw_none dkce_16 B.notSynchronized
  · refine lv_iload_n hx hb dkce_4 rfl (lv_at hl 0 rfl) ?_
    refine lv_sipush (v := 255) hx hb dkce_5 (by decide) ?_
    refine lv_icmp_gt (tgt := 15) hx hb dkce_8 (by decide) (fun _ => ?_) (fun _ => ?_)
    · refine lv_iconst (v := 0) hx hb dkce_15 (by decide) ?_
      exact W.zret hx hb B.returns (by decide) (fun t ht _ => ⟨ht, _, rfl, Or.inl rfl⟩) kw_none dkce_16 B.notSynchronized
    · refine lv_iconst (v := 1) hx hb dkce_11 (by decide) ?_
      refine lv_goto (tgt := 16) hx hb dkce_12 (by decide) ?_
      exact W.zret hx hb B.returns (by decide) (fun t ht _ => ⟨ht, _, rfl, Or.inr rfl⟩) kw_none dkce_16 B.notSynchronized
def kwI : Option Value → Prop := fun v => ∃ z : Int32, v = some (.int z)
theorem kw_ixc (i : Nat) (hi : i < 11) (x : Int32) : Met la xm_ic.1 (xWs (xTs xTc) xm_ic) (xR xm_ic) (kwP dA [.ref (dA (2000 + i)), .int x, .int (nI 0), .int (nI (xsl.getD i 0))]) (kwR kwI) 0 0 (fun _ => False) := by
  refine Met.ofW (cc := xm_ic.2.1) (maxL := 6) (ret := some .int) (by decide +kernel) rfl ?_
  intro p e s m args below meth c s₁ B hml hP
  obtain ⟨rfl, hKA⟩ := hP
  have hx := B.exec
  have hb : c.code = xm_ic.2.1 := B.bytes
  have hl := lv_entry [Value.ref (dA (2000 + i)), .int x, .int (nI 0), .int (nI (xsl.getD i 0))] (n := 6) (show 4 ≤ 6 by decide)
  rw [lg_entry_eq]
  have hT := (hKA.2.2.1.1 i hi).2.2.2
  have h8 := kw_slen i hi
  refine lv_iload_n hx hb dkic_0 rfl (lv_at hl 1 rfl) ?_
  refine lv_i2b (v := x.toInt8.toInt32) hx hb dkic_1 rfl ?_
  refine lv_istore (lv' := [(4, .int x.toInt8.toInt32), (0, .ref (dA (2000 + i))), (1, .int x), (2, .int (nI 0)), (3, .int (nI (xsl.getD i 0)))]) hx hb dkic_2 hl (by decide) rfl (fun ls hl => ?_)
  refine lv_iload_n hx hb dkic_4 rfl (lv_at hl 3 rfl) ?_
  refine lv_istore (lv' := [(5, .int (nI 0)), (4, .int x.toInt8.toInt32), (0, .ref (dA (2000 + i))), (1, .int x), (2, .int (nI 0)), (3, .int (nI (xsl.getD i 0)))]) hx hb dkic_5 hl (by decide) rfl (fun ls hl => ?_)
  have loop : ∀ (k j : Nat), j + k = xsl.getD i 0 → ∀ ls : Array Slot, lv_has ls 6 [(5, .int (nI j)), (4, .int x.toInt8.toInt32), (0, .ref (dA (2000 + i))), (1, .int x), (2, .int (nI 0)), (3, .int (nI (xsl.getD i 0)))] → W p la e (xR xm_ic) s m #[Value.ref (dA (2000 + i)), .int x, .int (nI 0), .int (nI (xsl.getD i 0))] below meth c s.heap [] 0 0 (MQ below (kwR kwI) #[Value.ref (dA (2000 + i)), .int x, .int (nI 0), .int (nI (xsl.getD i 0))] s 0 0 (fun _ => False)) (F0 m 7 ls []) := by
    intro k
    induction k with
    | zero =>
      intro j hj ls hl
      refine lv_iload hx hb dkic_7 (lv_at hl 0 rfl) ?_
      refine lv_iload_n hx hb dkic_9 rfl (lv_at hl 5 rfl) ?_
      refine lv_icmp_ge (tgt := 31) hx hb dkic_10 (by decide) (fun _ => ?_) (fun q => absurd (nI_le (by omega) (by omega)) q)
      refine lv_iconst (v := -1) hx hb dkic_31 (by decide) ?_
      exact W.zret hx hb B.returns rfl (fun t ht _ => ⟨ht, _, rfl, _, rfl⟩) kw_none dkic_32 B.notSynchronized
    | succ k ih =>
      intro j hj ls hl
      refine lv_iload hx hb dkic_7 (lv_at hl 0 rfl) ?_
      refine lv_iload_n hx hb dkic_9 rfl (lv_at hl 5 rfl) ?_
      refine lv_icmp_ge (tgt := 31) hx hb dkic_10 (by decide) (fun q => absurd q (Int32.not_le.mpr (nI_lt (by omega) (by omega)))) (fun _ => ?_)
      refine lv_aload_n hx hb dkic_13 rfl (lv_at hl 2 rfl) ?_
      refine lv_iload hx hb dkic_14 (lv_at hl 0 rfl) ?_
      refine va_tb (v := .int ((xsb.getD i []).getD j 0)) hx hb hT va_S.rf (vp_in_nI (by omega) (by omega)) (by rw [nI_clamp (by omega)]) dkic_16 ?_
      refine lv_iload hx hb dkic_17 (lv_at hl 1 rfl) ?_
      refine lv_icmp_ne (tgt := 25) hx hb dkic_19 (by decide) (fun _ => ?_) (fun _ => ?_)
      · refine lv_iinc (v := nI (j + 1)) (lv' := [(5, .int (nI (j + 1))), (4, .int x.toInt8.toInt32), (0, .ref (dA (2000 + i))), (1, .int x), (2, .int (nI 0)), (3, .int (nI (xsl.getD i 0)))]) hx hb dkic_25 hl (k := 0) rfl (by rw [← nI_add]; rfl) (by decide) rfl (fun ls hl => ?_)
        refine lv_goto (tgt := 7) hx hb dkic_28 (by decide) ?_
        exact ih (j + 1) (by omega) ls hl
      · refine lv_iload hx hb dkic_22 (lv_at hl 0 rfl) ?_
        exact W.zret hx hb B.returns rfl (fun t ht _ => ⟨ht, _, rfl, _, rfl⟩) kw_none dkic_24 B.notSynchronized
  exact loop (xsl.getD i 0) 0 (by omega) ls hl
theorem kw_ok_i1_ce : kwO xm_i1 xm_ce 88 1 := ⟨(xwg_of (i := 13474) (by decide +kernel)), (xwg_of (i := 9234) (by decide +kernel)), (xwg_of (i := 13472) (by decide +kernel)), by decide +kernel, by decide +kernel, rfl, rfl⟩
theorem kw_ok_i1_ic : kwO xm_i1 xm_ic 95 4 := ⟨(xwg_of (i := 13479) (by decide +kernel)), (xwg_of (i := 9234) (by decide +kernel)), (xwg_of (i := 13477) (by decide +kernel)), by decide +kernel, by decide +kernel, rfl, rfl⟩
theorem kw_mx : (if nI 0 < nI 0 then nI 0 else nI 0) = nI 0 := by decide
theorem kw_mn (k : Nat) : (if nI k < nI k then nI k else nI k) = nI k := by split <;> rfl
theorem kw_ix1 (i : Nat) (hi : i < 11) (x : Int32) : Met la xm_i1.1 (xWs (xTs xTc) xm_i1) (xR xm_i1) (kwP dA [.ref (dA (2000 + i)), .int x, .int (nI 0), .int (nI (xsl.getD i 0))]) (kwR kwI) 0 0 (fun _ => False) := by
  refine Met.ofW (cc := xm_i1.2.1) (maxL := 4) (ret := some .int) (by decide +kernel) rfl ?_
  intro p e s m args below meth c s₁ B hml hP
  obtain ⟨rfl, hKA⟩ := hP
  have hts := atoms_spec (ws := xWs (xTs xTc) xm_i1) B.pre
  have hw : ∀ w ∈ xTs xTc, w.before _ s = true := fun w q => hts w (List.mem_cons_of_mem _ q)
  have hx := B.exec
  have hb : c.code = xm_i1.2.1 := B.bytes
  have hown : s.vm.findClass "java/lang/StringLatin1" = some m.cls := findClass_of_methodNamed B.named
  have hl := lv_entry [Value.ref (dA (2000 + i)), .int x, .int (nI 0), .int (nI (xsl.getD i 0))] (n := 4) (Nat.le_refl _)
  rw [lg_entry_eq]
  have hT := (hKA.2.2.1.1 i hi).2.2.2
  have h8 := kw_slen i hi
  refine lv_iload_n hx hb dki1_0 rfl (lv_at hl 1 rfl) ?_
  refine kw_S (me := xm_i1) (mc := xm_ce) (As := [.int x]) ⟨hx, hb, hml, hown, hts⟩ kw_ok_i1_ce (xwg_of (i := 13473) (by decide +kernel)) (kw_can x) kwP_blind (kw_KA hKA) rfl hl.1 (Nat.zero_le _) dki1_1 ⟨Nat.le_refl _, Nat.le_refl _⟩ (fun v hv => ?_)
  have out : ∀ pc, decode xm_i1.2.1 pc = .ok (.iconst (-1), 1) → decode xm_i1.2.1 (pc + 1) = .ok (.ireturn, 1) → ∀ ls, W p la e (xR xm_i1) s m #[Value.ref (dA (2000 + i)), .int x, .int (nI 0), .int (nI (xsl.getD i 0))] below meth c s.heap [] 0 0 (MQ below (kwR kwI) #[Value.ref (dA (2000 + i)), .int x, .int (nI 0), .int (nI (xsl.getD i 0))] s 0 0 (fun _ => False)) (F0 m pc ls []) := by
    intro pc d1 d2 ls
    refine lv_iconst (v := -1) hx hb d1 (by decide) ?_
    exact W.zret hx hb B.returns rfl (fun t ht _ => ⟨ht, _, rfl, _, rfl⟩) kw_none d2 B.notSynchronized
  rcases hv with rfl | rfl
  · refine lv_if_ne (tgt := 9) hx hb dki1_4 (by decide) (fun q => absurd rfl q) (fun _ => ?_)
    exact out 7 dki1_7 dki1_8 _
  · refine lv_if_ne (tgt := 9) hx hb dki1_4 (by decide) (fun _ => ?_) (fun q => absurd q (by decide))
    refine lv_iload_n hx hb dki1_9 rfl (lv_at hl 2 rfl) ?_
    refine lv_iconst (v := nI 0) hx hb dki1_10 (by decide) ?_
    refine va_mmax hx hb (by rw [hml]; exact hl.1.symm) hown (hw _ (xwg_of (i := 13475) (by decide +kernel))) (hw _ (xwg_of (i := 12334) (by decide +kernel))) (hw _ (xwg_of (i := 9231) (by decide +kernel))) (hw _ (xwg_of (i := 12335) (by decide +kernel))) (by decide) (by decide) (Nat.le_refl _) (Nat.le_refl _) dki1_11 ?_
    rw [kw_mx]
    refine lv_istore_n (lv' := [(2, .int (nI 0)), (0, .ref (dA (2000 + i))), (1, .int x), (3, .int (nI (xsl.getD i 0)))]) hx hb dki1_14 rfl hl (by decide) rfl (fun ls hl => ?_)
    refine lv_iload_n hx hb dki1_15 rfl (lv_at hl 3 rfl) ?_
    refine lv_aload_n hx hb dki1_16 rfl (lv_at hl 1 rfl) ?_
    refine va_tlen (v := nI (xsl.getD i 0)) hx hb hT va_S.rf rfl dki1_17 ?_
    refine va_mmin hx hb (by rw [hml]; exact hl.1.symm) hown (hw _ (xwg_of (i := 13476) (by decide +kernel))) (hw _ (xwg_of (i := 12413) (by decide +kernel))) (hw _ (xwg_of (i := 9231) (by decide +kernel))) (hw _ (xwg_of (i := 12414) (by decide +kernel))) (by decide) (by decide) (Nat.le_refl _) (Nat.le_refl _) dki1_18 ?_
    rw [kw_mn]
    refine lv_istore_n (lv' := [(3, .int (nI (xsl.getD i 0))), (2, .int (nI 0)), (0, .ref (dA (2000 + i))), (1, .int x)]) hx hb dki1_21 rfl hl (by decide) rfl (fun ls hl => ?_)
    refine lv_iload_n hx hb dki1_22 rfl (lv_at hl 1 rfl) ?_
    refine lv_iload_n hx hb dki1_23 rfl (lv_at hl 0 rfl) ?_
    refine lv_icmp_lt (tgt := 29) hx hb dki1_24 (by decide) (fun _ => ?_) (fun _ => out 27 dki1_27 dki1_28 _)
    refine lv_aload_n hx hb dki1_29 rfl (lv_at hl 2 rfl) ?_
    refine lv_iload_n hx hb dki1_30 rfl (lv_at hl 3 rfl) ?_
    refine lv_iload_n hx hb dki1_31 rfl (lv_at hl 1 rfl) ?_
    refine lv_iload_n hx hb dki1_32 rfl (lv_at hl 0 rfl) ?_
    refine kw_S (me := xm_i1) (mc := xm_ic) (As := [.ref (dA (2000 + i)), .int x, .int (nI 0), .int (nI (xsl.getD i 0))]) ⟨hx, hb, hml, hown, hts⟩ kw_ok_i1_ic (xwg_of (i := 13478) (by decide +kernel)) (kw_ixc i hi x) kwP_blind (kw_KA hKA) rfl hl.1 (Nat.zero_le _) dki1_33 ⟨Nat.le_refl _, Nat.le_refl _⟩ (fun v hv => ?_)
    obtain ⟨z, rfl⟩ := hv
    exact W.zret hx hb B.returns rfl (fun t ht _ => ⟨ht, _, rfl, _, rfl⟩) kw_none dki1_36 B.notSynchronized
theorem kw_ok_i2_la : kwO xm_i2 xm_la 492 0 := ⟨(xwg_of (i := 13416) (by decide +kernel)), (xwg_of (i := 9233) (by decide +kernel)), (xwg_of (i := 13413) (by decide +kernel)), by decide +kernel, by decide +kernel, rfl, rfl⟩
theorem kw_ok_i2_l : kwO xm_i2 xm_l 505 0 := ⟨(xwg_of (i := 13402) (by decide +kernel)), (xwg_of (i := 9233) (by decide +kernel)), (xwg_of (i := 13468) (by decide +kernel)), by decide +kernel, by decide +kernel, rfl, rfl⟩
theorem kw_ok_i2_i1 : kwO xm_i2 xm_i1 637 4 := ⟨(xwg_of (i := 13471) (by decide +kernel)), (xwg_of (i := 9234) (by decide +kernel)), (xwg_of (i := 13469) (by decide +kernel)), by decide +kernel, by decide +kernel, rfl, rfl⟩
theorem kw_ix2 (i : Nat) (hi : i < 11) (x : Int32) : Met la xm_i2.1 (xWs (xTs xTc) xm_i2) (xR xm_i2) (kwP dA [.ref (dA (1000 + i)), .int x, .int (nI 0)]) (kwR kwI) 0 0 (fun _ => False) := by
  refine Met.ofW (cc := xm_i2.2.1) (maxL := 3) (ret := some .int) (by decide +kernel) rfl ?_
  intro p e s m args below meth c s₁ B hml hP
  obtain ⟨rfl, hKA⟩ := hP
  have hts := atoms_spec (ws := xWs (xTs xTc) xm_i2) B.pre
  have hw : ∀ w ∈ xTs xTc, w.before _ s = true := fun w q => hts w (List.mem_cons_of_mem _ q)
  have hx := B.exec
  have hb : c.code = xm_i2.2.1 := B.bytes
  have hown : s.vm.findClass "java/lang/String" = some m.cls := findClass_of_methodNamed B.named
  have hl := lv_entry [Value.ref (dA (1000 + i)), .int x, .int (nI 0)] (n := 3) (Nat.le_refl _)
  rw [lg_entry_eq]
  refine lv_aload_n hx hb dki2_0 rfl (lv_at hl 0 rfl) ?_
  refine kw_V (me := xm_i2) (mc := xm_la) (As := []) ⟨hx, hb, hml, hown, hts⟩ kw_ok_i2_la (xwg_of (i := 13414) (by decide +kernel)) (xwg_of (i := 13415) (by decide +kernel)) (kw_lat i hi) kwP_blind (kw_recv hKA hi) (kw_KA hKA) rfl hl.1 (Nat.zero_le _) dki2_1 ⟨Nat.le_refl _, Nat.le_refl _⟩ (fun v hv => ?_)
  subst hv
  refine lv_if_eq (tgt := 23) hx hb dki2_4 (by decide) (fun q => absurd q (by decide)) (fun _ => ?_)
  refine lv_aload_n hx hb dki2_7 rfl (lv_at hl 0 rfl) ?_
  refine vk_getf hx hb (hKA.2.2.1.1 i hi).2.2.1 va_S.rf hown (hw _ (xwg_of (i := 19504) (by decide +kernel))) (fun _ h => h) dki2_8 ?_
  refine lv_iload_n hx hb dki2_11 rfl (lv_at hl 1 rfl) ?_
  refine lv_iload_n hx hb dki2_12 rfl (lv_at hl 2 rfl) ?_
  refine lv_aload_n hx hb dki2_13 rfl (lv_at hl 0 rfl) ?_
  refine kw_V (me := xm_i2) (mc := xm_l) (As := []) ⟨hx, hb, hml, hown, hts⟩ kw_ok_i2_l (xwg_of (i := 13400) (by decide +kernel)) (xwg_of (i := 13401) (by decide +kernel)) (kw_length i hi) kwP_blind (kw_recv hKA hi) (kw_KA hKA) rfl hl.1 (show (1 : Nat) + (1 + (1 + 0)) ≤ 8 by decide) dki2_14 ⟨Nat.le_refl _, Nat.le_refl _⟩ (fun v hv => ?_)
  subst hv
  refine kw_S (me := xm_i2) (mc := xm_i1) (As := [.ref (dA (2000 + i)), .int x, .int (nI 0), .int (nI (xsl.getD i 0))]) ⟨hx, hb, hml, hown, hts⟩ kw_ok_i2_i1 (xwg_of (i := 13470) (by decide +kernel)) (kw_ix1 i hi x) kwP_blind (kw_KA hKA) rfl hl.1 (Nat.zero_le _) dki2_17 ⟨Nat.le_refl _, Nat.le_refl _⟩ (fun v hv => ?_)
  obtain ⟨z, rfl⟩ := hv
  refine lv_goto (tgt := 36) hx hb dki2_20 (by decide) ?_
  exact W.zret hx hb B.returns rfl (fun t ht _ => ⟨ht, _, rfl, _, rfl⟩) kw_none dki2_36 B.notSynchronized
theorem kw_ok_ix_i2 : kwO xm_ix xm_i2 633 2 := ⟨(xwg_of (i := 13467) (by decide +kernel)), (xwg_of (i := 9233) (by decide +kernel)), (xwg_of (i := 13464) (by decide +kernel)), by decide +kernel, by decide +kernel, rfl, rfl⟩
theorem kw_ix (i : Nat) (hi : i < 11) (x : Int32) : Met la xm_ix.1 (xWs (xTs xTc) xm_ix) (xR xm_ix) (kwP dA [.ref (dA (1000 + i)), .int x]) (kwR kwI) 0 0 (fun _ => False) := by
  refine Met.ofW (cc := xm_ix.2.1) (maxL := 2) (ret := some .int) (by decide +kernel) rfl ?_
  intro p e s m args below meth c s₁ B hml hP
  obtain ⟨rfl, hKA⟩ := hP
  have hts := atoms_spec (ws := xWs (xTs xTc) xm_ix) B.pre
  have hx := B.exec
  have hb : c.code = xm_ix.2.1 := B.bytes
  have hown : s.vm.findClass "java/lang/String" = some m.cls := findClass_of_methodNamed B.named
  have hl := lv_entry [Value.ref (dA (1000 + i)), .int x] (n := 2) (Nat.le_refl _)
  rw [lg_entry_eq]
  refine lv_aload_n hx hb dkix_0 rfl (lv_at hl 0 rfl) ?_
  refine lv_iload_n hx hb dkix_1 rfl (lv_at hl 1 rfl) ?_
  refine lv_iconst (v := nI 0) hx hb dkix_2 (by decide) ?_
  refine kw_V (me := xm_ix) (mc := xm_i2) (As := [.int x, .int (nI 0)]) ⟨hx, hb, hml, hown, hts⟩ kw_ok_ix_i2 (xwg_of (i := 13465) (by decide +kernel)) (xwg_of (i := 13466) (by decide +kernel)) (kw_ix2 i hi x) kwP_blind (kw_recv hKA hi) (kw_KA hKA) rfl hl.1 (Nat.zero_le _) dkix_3 ⟨Nat.le_refl _, Nat.le_refl _⟩ (fun v hv => ?_)
  obtain ⟨z, rfl⟩ := hv
  exact W.zret hx hb B.returns rfl (fun t ht _ => ⟨ht, _, rfl, _, rfl⟩) kw_none dkix_6 B.notSynchronized
theorem kw_ok_b_w : kwO xm_117 xm_118 81 1 := ⟨(xwg_of (i := 13388) (by decide +kernel)), (xwg_of (i := 9225) (by decide +kernel)), (xwg_of (i := 13386) (by decide +kernel)), by decide +kernel, by decide +kernel, rfl, rfl⟩
theorem kw_ok_b_i : kwO xm_117 xm_119 85 3 := ⟨(xwg_of (i := 13398) (by decide +kernel)), (xwg_of (i := 9225) (by decide +kernel)), (xwg_of (i := 13395) (by decide +kernel)), by decide +kernel, by decide +kernel, rfl, rfl⟩
/-- the tape of a heap that is of the joint shape -/
theorem kiB_of {I : fH} {hp : xH} {nn : Nat} (hh : fhr gJ I hp) (hH : xHR ρ base F D dA xTys vwCl hp nn H) : kiB base D dA H := by
  obtain ⟨rows, h1, h2⟩ := hh 699 9 11 (by decide +kernel)
  obtain ⟨rows', h3, h4⟩ := hh 700 100 96 (by decide +kernel)
  obtain ⟨fs, hfs, hat⟩ := xobj (hH.2 699 _ h1) (show (9 : Nat) < 100 by decide)
  obtain ⟨gs, hgs, hat2, ty, ht, hfit⟩ := xarr (hH.2 700 _ h3) (Nat.le_refl 100)
  obtain ⟨v, hv, hg⟩ := hfs.2 0 _ (h2 0 (by decide))
  have e : fcl gJ 9 I 699 0 = .inr (.inr (some 700)) := by
    unfold fcl
    rw [show gJ.2 699 0 = some 700 by decide +kernel]
  rw [e] at hg
  have hg : v = .ref (base + 700) := hg
  subst hg
  have ht : xTys[0]? = some ty := ht
  have et : ty = .int := Option.some.inj (ht.symm.trans rfl)
  subst et
  exact ⟨fs, gs, hat, hv, hat2, hgs.1, hfit⟩
theorem kw_KI {vc : List Value} {I : fH} {hp : xH} {nn : Nat} (hh : fhr gJ I hp) (hH : xHR ρ base F D dA xTys vwCl hp nn H) (hL : va_S F s.heap H locs) (hK : va_K D vwCl [] s) (hKA : xKA dA xTys s) : ∀ U : State, U.heap = H → s.WarmedH U.vm → kiP base D dA vc vc.toArray U := fun U hU hWm => ⟨rfl, (kw_KH (vc := vc) hH hL hKA U hU hWm).2, va_K.moved hWm.alike hK, by rw [hU]; exact kiB_of hh hH⟩
theorem kb_loop {I : fH} {x1 x2 : Int} {k : xK} {env : xE} {hp : xH} {nn : Nat} (h1 : 0 ≤ x1 ∧ x1 ≤ 96) (h2 : 0 ≤ x2 ∧ x2 ≤ 96) (C : xCx (xTs xTc) (xNs xTc) vwCl xTys D dA p s m args meth c xm_117) (hρ : xρ ρ env) (hh : fhr gJ I hp) (hH : xHR ρ base F D dA xTys vwCl hp nn H) (hL : va_S F s.heap H locs) (hk : ∀ u : Nat, (u < 6 ∨ u = 3294967291) → k env hp nn (some (.inl u)) = true) : ∀ (j i : Nat), i + j = 6 → ∀ ls : Array Slot, lv_has ls 4 [(3, .int (nI i)), (0, .ref (base + 699)), (1, .int (iI x1)), (2, .int (iI x2))] → W p la e (xR xm_117) s m args below meth c H locs 0 0 (MQ below (xQ ρ base F D dA xTys vwCl k) args s 0 0 F) (F0 m 2 ls []) := by
  obtain ⟨hx, hb, hml, hret, hlk, -, hown, hts, -, hK, hKA⟩ := C
  have hw : ∀ w ∈ xTs xTc, w.before args s = true := fun w q => hts w (List.mem_cons_of_mem _ q)
  obtain ⟨fs, gs, hat, -⟩ := kiB_of hh hH
  have hrv := va_recv hK (xP1 hat) (show vwCl[9]? = some ("AcidCity$Tape", TX9, 11) from rfl) (q0 := 0) rfl
  intro j
  induction j with
  | zero =>
    intro i hi ls hl
    obtain rfl : i = 6 := by omega
    refine lv_iload_n hx hb dkb_2 rfl (lv_at hl 0 rfl) ?_
    refine lv_bipush (v := 6) hx hb dkb_3 (by decide) ?_
    refine lv_icmp_ge (tgt := 29) hx hb dkb_5 (by decide) (fun _ => ?_) (fun q => absurd (by decide) q)
    refine lv_ldc (v := nI 3294967291) hx hb hown (hw _ (xwg_of (i := 13447) (by decide +kernel))) dkb_29 ?_
    exact W.zret hx hb hret rfl (fun t ht _ => ⟨hL.F ht, env, hp, nn, _, hk _ (Or.inr rfl), hρ, by rw [ht]; exact hH, Or.inr ⟨_, _, rfl, rfl, rfl⟩⟩) hL.2.2 dkb_31 hlk
  | succ j ih =>
    intro i hi ls hl
    have hi6 : i < 6 := by omega
    refine lv_iload_n hx hb dkb_2 rfl (lv_at hl 0 rfl) ?_
    refine lv_bipush (v := nI 6) hx hb dkb_3 (by decide) ?_
    refine lv_icmp_ge (tgt := 29) hx hb dkb_5 (by decide) (fun q => absurd q (Int32.not_le.mpr (nI_lt hi6 (by decide)))) (fun _ => ?_)
    refine lv_aload_n hx hb dkb_8 rfl (lv_at hl 1 rfl) ?_
    refine lv_iload_n hx hb dkb_9 rfl (lv_at hl 0 rfl) ?_
    refine kw_S (me := xm_117) (mc := xm_118) (As := [.int (nI i)]) ⟨hx, hb, hml, hown, hts⟩ kw_ok_b_w (xwg_of (i := 13387) (by decide +kernel)) (kw_wordOf i hi6) kwP_blind (kw_KH hH hL hKA) rfl hl.1 (show (1 : Nat) + 0 ≤ 8 by decide) dkb_10 ⟨Nat.le_refl _, Nat.le_refl _⟩ (fun v hv => ?_)
    subst hv
    refine lv_iload_n hx hb dkb_13 rfl (lv_at hl 2 rfl) ?_
    refine lv_iload_n hx hb dkb_14 rfl (lv_at hl 3 rfl) ?_
    refine kw_V (me := xm_117) (mc := xm_119) (As := [.ref (dA (1000 + i)), .int (iI x1), .int (iI x2)]) ⟨hx, hb, hml, hown, hts⟩ kw_ok_b_i (xwg_of (i := 13397) (by decide +kernel)) (xwg_of (i := 1030) (by decide +kernel)) (kw_isWord i (by omega) h1 h2) kiP_blind hrv (kw_KI hh hH hL hK hKA) rfl hl.1 (Nat.zero_le _) dkb_15 ⟨Nat.le_refl _, Nat.le_refl _⟩ (fun v hv => ?_)
    rcases hv with rfl | rfl
    · refine lv_if_eq (tgt := 23) hx hb dkb_18 (by decide) (fun _ => ?_) (fun q => absurd rfl q)
      refine lv_iinc (v := nI (i + 1)) (lv' := [(3, .int (nI (i + 1))), (0, .ref (base + 699)), (1, .int (iI x1)), (2, .int (iI x2))]) hx hb dkb_23 hl (k := 0) rfl (by rw [← nI_add]; rfl) (by decide) rfl (fun ls hl => ?_)
      refine lv_goto (tgt := 2) hx hb dkb_26 (by decide) ?_
      exact ih (i + 1) (by omega) ls hl
    · refine lv_if_eq (tgt := 23) hx hb dkb_18 (by decide) (fun q => absurd q (by decide)) (fun _ => ?_)
      refine lv_iload_n hx hb dkb_21 rfl (lv_at hl 0 rfl) ?_
      exact W.zret hx hb hret rfl (fun t ht _ => ⟨hL.F ht, env, hp, nn, _, hk i (Or.inl hi6), hρ, by rw [ht]; exact hH, Or.inr ⟨_, _, rfl, rfl, rfl⟩⟩) hL.2.2 dkb_22 hlk
/-- a list of locals that the machine holds -/
theorem klv {lvc : List (Nat × Value)} {i : Nat} {v : fV} {lv : fL} (h : xLR ρ base (feL ((i, v) :: lv)) lvc) : ∃ w r, lvc = (i, w) :: r ∧ xg ρ base (fe v) w ∧ xLR ρ base (feL lv) r := by
  obtain ⟨⟨i', w⟩, r, rfl, k0, g0, h'⟩ := xLR_cons h
  have k0 : i = i' := k0
  subst k0
  exact ⟨w, r, rfl, g0, h'⟩
theorem kfe {z : Int} {w : Value} (h : xg ρ base (fe (.inl z)) w) : w = .int (iI z) := by
  have h : w = Value.int (nI (ic z)) := h
  rw [h, nI_ic]
theorem ct_Tape_keyBetween_0cd50 {I : fH} {x1 : Int} {x2 : Int} (h0 : fB bsJ I) (ha1 : 0 ≤ x1 ∧ x1 ≤ 96) (ha2 : 0 ≤ x2 ∧ x2 ≤ 96) : fC ρ base n F xTc vwCl xTys D dA la gJ (fbz bsJ znJ (fKc []) I) xm_117 [.inr (.inr (some 699)), .inl x1, .inl x2] I (fun _ r => ∃ z, r = some (.inl z) ∧ ((0 ≤ z ∧ z ≤ 5) ∨ z = (-1000000005))) := by
  intro hp hh
  refine fih_mk (fun pc hat => ?_)
  have e0 : 0 = pc := hat _ _ rfl
  subst e0
  intro p e s m args below meth c C H locs ls stc hI hL
  obtain ⟨lvc, hl, hlr⟩ := hI.2.1
  obtain ⟨w0, r, rfl, g0, hlr0⟩ := klv (i := 0) (v := .inr (.inr (some 699))) (lv := [(1, .inl x1), (2, .inl x2)]) hlr
  obtain ⟨w1, r1, rfl, g1, hlr1⟩ := klv hlr0
  obtain ⟨w2, r2, rfl, g2, hlr2⟩ := klv hlr1
  have g0 : w0 = .ref (base + 699) := g0
  have g1 := kfe g1
  have g2 := kfe g2
  subst g0; subst g1; subst g2
  rw [xLR_nil (show xLR ρ base [] r2 from hlr2)] at hl
  rw [xSR_nil hI.2.2.1]
  have C0 := C
  obtain ⟨hx, hb, hml, hret, hlk, -, hown, hts, -, hK, hKA⟩ := C
  refine lv_iconst (v := nI 0) hx hb dkb_0 (by decide) ?_
  refine lv_istore_n (lv' := [(3, .int (nI 0)), (0, .ref (base + 699)), (1, .int (iI x1)), (2, .int (iI x2))]) hx hb dkb_1 rfl hl (by decide) rfl (fun ls hl => ?_)
  refine kb_loop ha1 ha2 C0 hI.1 hh hI.2.2.2.1 hL (fun u hu => ?_) 6 0 rfl ls hl
  refine @decide_eq_true _ (Classical.propDecidable _) ⟨rfl, I, ?_⟩
  rcases hu with hu | rfl
  · exact ⟨some (.inl (u : Int)), hh, by show some (Sum.inl u) = some (Sum.inl (ic (u : Int))); rw [ic_small (by omega) (by omega)]; rfl, fB_self h0, _, rfl, Or.inl (by omega)⟩
  · exact ⟨some (.inl (-1000000005)), hh, rfl, fB_self h0, _, rfl, Or.inr rfl⟩
theorem kw_ok_t_n : kwO xm_120 xm_121 120 1 := ⟨(xwg_of (i := 13454) (by decide +kernel)), (xwg_of (i := 9225) (by decide +kernel)), (xwg_of (i := 13452) (by decide +kernel)), by decide +kernel, by decide +kernel, rfl, rfl⟩
theorem kw_ok_t_ix : kwO xm_120 xm_ix 123 1 := ⟨(xwg_of (i := 13463) (by decide +kernel)), (xwg_of (i := 9233) (by decide +kernel)), (xwg_of (i := 13460) (by decide +kernel)), by decide +kernel, by decide +kernel, rfl, rfl⟩
theorem kx6_120 : f60c xTc xTys xm_120 = true := by decide +kernel
/-- the names of a key, the place of a sign among them: some int -/
theorem fnames {bd : Nat → Nat → Int × Int} {P : fH → Option fV → Prop} {I : fH} {y3 k : Int} (hB : fB bd I) (h : ∀ r : Int, fin32 r → fjmp (xcd xm_120) 33 (fun cs => fwp gJ bd rbJ (fC ρ base n F xTc vwCl xTys D dA la gJ bd) xMs [] 0 xm_120 P 400 cs [(0, .inr (.inr (some 699))), (3, .inl y3)] [.inl r] I)) : fWat ρ base n F xTc vwCl xTys D dA la gJ bd xm_120 P 25 [(0, .inr (.inr (some 699))), (3, .inl y3)] [.inl k] I := by
  intro i r e0 hs hp hh
  refine fih_mk (fun pc hat => ?_)
  have e1 : i.1 = pc := hat _ _ rfl
  obtain rfl : pc = 25 := e1.symm.trans e0
  intro p e s m args below meth c C H locs ls stc hI hL
  obtain ⟨lvc, hl, hlr⟩ := hI.2.1
  obtain ⟨w0, r0, rfl, g0, hlr0⟩ := klv (i := 0) (v := .inr (.inr (some 699))) (lv := [(3, .inl y3)]) hlr
  obtain ⟨w3, r3, rfl, g3, hlr3⟩ := klv hlr0
  have g3 := kfe g3
  subst g3
  obtain ⟨wk, stc, rfl, gk, hst⟩ := xSR_cons hI.2.2.1
  have gk := kfe (z := k) gk
  subst gk
  rw [xSR_nil hst]
  have C0 := C
  obtain ⟨hx, hb, hml, hret, hlk, -, hown, hts, -, hK, hKA⟩ := C
  have hH := hI.2.2.2.1
  refine kw_S (me := xm_120) (mc := xm_121) (As := [.int (iI k)]) ⟨hx, hb, hml, hown, hts⟩ kw_ok_t_n (xwg_of (i := 13453) (by decide +kernel)) (kw_namesOf _) kwP_blind (kw_KH hH hL hKA) rfl hl.1 (Nat.zero_le _) dkt_25 ⟨Nat.zero_le _, Nat.zero_le _⟩ (fun v hv => ?_)
  obtain ⟨j, hj, rfl⟩ := hv
  refine lv_iload_n hx hb dkt_28 rfl (lv_at hl 1 rfl) ?_
  refine lv_i2c hx hb dkt_29 rfl ?_
  have hrv : ∃ cell : Cell, H[dA (1000 + j)]? = some cell ∧ cell.vm.isStatics = false ∧ s.vm.findClass "java/lang/String" = some cell.cls := by
    obtain ⟨cell, g1, g2, g3, g4⟩ := (hKA.2.2.1.1 j hj).1
    exact ⟨cell, by rw [hL.2.1 _ (Array.getElem?_eq_some_iff.mp g1).1 (fun f => g4 (hH.1.2.2.2 _ f))]; exact g1, g2, g3⟩
  refine kw_V (me := xm_120) (mc := xm_ix) (As := [.int _]) ⟨hx, hb, hml, hown, hts⟩ kw_ok_t_ix (xwg_of (i := 13461) (by decide +kernel)) (xwg_of (i := 13462) (by decide +kernel)) (kw_ix j hj _) kwP_blind hrv (kw_KH hH hL hKA) rfl hl.1 (Nat.zero_le _) dkt_30 ⟨Nat.zero_le _, Nat.zero_le _⟩ (fun v hv => ?_)
  obtain ⟨z, rfl⟩ := hv
  obtain ⟨i', r', e1, e2, e3⟩ := fjmp_ex (h z.toInt (fin_toInt z))
  have q := fat_of (fwp_cut xG xin_120 kx6_120 fC_ok okJ 0 (fun q hq => absurd hq List.not_mem_nil) 400 (i' :: r') _ _ I e2 hB e3 hp hh)
  rw [e1] at q
  exact q p e s m args below meth c C0 H locs ls [.int z] ⟨hI.1, ⟨_, hl, hlr⟩, ⟨by show Value.int z = Value.int (nI (ic z.toInt)); rw [nI_ic, iI_toInt], trivial⟩, hI.2.2.2⟩ hL
end KW


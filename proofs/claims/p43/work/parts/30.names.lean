-- ===== PART A: goes FIRST, ahead of the names: the tables' words, and 'selects' of the private methods out of them =====
/-- a private method of a class that the tables say can be made, by its rows of tables_1 -/
def lw_okq (q : MethodName × Nat) : Prop := (q.1.cls ≠ "java/lang/invoke/MethodHandle" ∧ q.1.cls ≠ "java/lang/invoke/VarHandle") ∧ Cond.instantiable q.1.cls q.2 ∈ tables_1 ∧ Cond.privateMethod q.1 ∈ tables_1 ∧ Cond.instanceMethod q.1 ∈ tables_1
theorem lw_p0 : lw_okq (⟨"AcidCity$Charter", "putOne", "(LAcidCity$City;I)V"⟩, 14) := ⟨⟨by decide +kernel, by decide +kernel⟩, List.mem_of_getElem? (i := 255) (by decide +kernel), List.mem_of_getElem? (i := 642) (by decide +kernel), List.mem_of_getElem? (i := 643) (by decide +kernel)⟩
theorem lw_p1 : lw_okq (⟨"AcidCity$Charter", "put", "(CI)V"⟩, 14) := ⟨⟨by decide +kernel, by decide +kernel⟩, List.mem_of_getElem? (i := 255) (by decide +kernel), List.mem_of_getElem? (i := 646) (by decide +kernel), List.mem_of_getElem? (i := 647) (by decide +kernel)⟩
theorem lw_p2 : lw_okq (⟨"AcidCity$Charter", "allows", "(II)Z"⟩, 14) := ⟨⟨by decide +kernel, by decide +kernel⟩, List.mem_of_getElem? (i := 255) (by decide +kernel), List.mem_of_getElem? (i := 658) (by decide +kernel), List.mem_of_getElem? (i := 659) (by decide +kernel)⟩
theorem lw_p3 : lw_okq (⟨"AcidCity$Charter", "isInForce", "(II)Z"⟩, 14) := ⟨⟨by decide +kernel, by decide +kernel⟩, List.mem_of_getElem? (i := 255) (by decide +kernel), List.mem_of_getElem? (i := 666) (by decide +kernel), List.mem_of_getElem? (i := 667) (by decide +kernel)⟩
theorem lw_p4 : lw_okq (⟨"AcidCity$Charter", "worth", "(I)I"⟩, 14) := ⟨⟨by decide +kernel, by decide +kernel⟩, List.mem_of_getElem? (i := 255) (by decide +kernel), List.mem_of_getElem? (i := 670) (by decide +kernel), List.mem_of_getElem? (i := 671) (by decide +kernel)⟩
theorem lw_p5 : lw_okq (⟨"AcidCity$Charter", "nameAt", "(I)I"⟩, 14) := ⟨⟨by decide +kernel, by decide +kernel⟩, List.mem_of_getElem? (i := 255) (by decide +kernel), List.mem_of_getElem? (i := 674) (by decide +kernel), List.mem_of_getElem? (i := 675) (by decide +kernel)⟩
theorem lw_p6 : lw_okq (⟨"AcidCity", "refusedProbe", "(I)I"⟩, 16) := ⟨⟨by decide +kernel, by decide +kernel⟩, List.mem_of_getElem? (i := 24) (by decide +kernel), List.mem_of_getElem? (i := 748) (by decide +kernel), List.mem_of_getElem? (i := 749) (by decide +kernel)⟩
theorem lw_p7 : lw_okq (⟨"AcidCity$Cells", "hear", "([I)V"⟩, 13) := ⟨⟨by decide +kernel, by decide +kernel⟩, List.mem_of_getElem? (i := 38) (by decide +kernel), List.mem_of_getElem? (i := 851) (by decide +kernel), List.mem_of_getElem? (i := 852) (by decide +kernel)⟩
theorem lw_p8 : lw_okq (⟨"AcidCity$City", "runWork", "(I)V"⟩, 10) := ⟨⟨by decide +kernel, by decide +kernel⟩, List.mem_of_getElem? (i := 32) (by decide +kernel), List.mem_of_getElem? (i := 857) (by decide +kernel), List.mem_of_getElem? (i := 858) (by decide +kernel)⟩
theorem lw_p9 : lw_okq (⟨"AcidCity$City", "runSkin", "(I)V"⟩, 10) := ⟨⟨by decide +kernel, by decide +kernel⟩, List.mem_of_getElem? (i := 32) (by decide +kernel), List.mem_of_getElem? (i := 861) (by decide +kernel), List.mem_of_getElem? (i := 862) (by decide +kernel)⟩
theorem lw_p10 : lw_okq (⟨"AcidCity$City", "loseGas", "(II)V"⟩, 10) := ⟨⟨by decide +kernel, by decide +kernel⟩, List.mem_of_getElem? (i := 32) (by decide +kernel), List.mem_of_getElem? (i := 875) (by decide +kernel), List.mem_of_getElem? (i := 876) (by decide +kernel)⟩
theorem lw_p11 : lw_okq (⟨"AcidCity$City", "runGarden", "(I)V"⟩, 10) := ⟨⟨by decide +kernel, by decide +kernel⟩, List.mem_of_getElem? (i := 32) (by decide +kernel), List.mem_of_getElem? (i := 879) (by decide +kernel), List.mem_of_getElem? (i := 880) (by decide +kernel)⟩
theorem lw_p12 : lw_okq (⟨"AcidCity$City", "runStill", "(I)V"⟩, 10) := ⟨⟨by decide +kernel, by decide +kernel⟩, List.mem_of_getElem? (i := 32) (by decide +kernel), List.mem_of_getElem? (i := 894) (by decide +kernel), List.mem_of_getElem? (i := 895) (by decide +kernel)⟩
theorem lw_p13 : lw_okq (⟨"AcidCity$City", "runRotor", "(I)V"⟩, 10) := ⟨⟨by decide +kernel, by decide +kernel⟩, List.mem_of_getElem? (i := 32) (by decide +kernel), List.mem_of_getElem? (i := 898) (by decide +kernel), List.mem_of_getElem? (i := 899) (by decide +kernel)⟩
theorem lw_p14 : lw_okq (⟨"AcidCity$City", "runProbe", "(I)V"⟩, 10) := ⟨⟨by decide +kernel, by decide +kernel⟩, List.mem_of_getElem? (i := 32) (by decide +kernel), List.mem_of_getElem? (i := 902) (by decide +kernel), List.mem_of_getElem? (i := 903) (by decide +kernel)⟩
theorem lw_p15 : lw_okq (⟨"AcidCity$City", "breathe", "(I)V"⟩, 10) := ⟨⟨by decide +kernel, by decide +kernel⟩, List.mem_of_getElem? (i := 32) (by decide +kernel), List.mem_of_getElem? (i := 921) (by decide +kernel), List.mem_of_getElem? (i := 922) (by decide +kernel)⟩
def lw_privs_1 : List (MethodName × Nat) := [(⟨"AcidCity$Charter", "putOne", "(LAcidCity$City;I)V"⟩, 14), (⟨"AcidCity$Charter", "put", "(CI)V"⟩, 14), (⟨"AcidCity$Charter", "allows", "(II)Z"⟩, 14), (⟨"AcidCity$Charter", "isInForce", "(II)Z"⟩, 14), (⟨"AcidCity$Charter", "worth", "(I)I"⟩, 14), (⟨"AcidCity$Charter", "nameAt", "(I)I"⟩, 14), (⟨"AcidCity", "refusedProbe", "(I)I"⟩, 16), (⟨"AcidCity$Cells", "hear", "([I)V"⟩, 13), (⟨"AcidCity$City", "runWork", "(I)V"⟩, 10), (⟨"AcidCity$City", "runSkin", "(I)V"⟩, 10), (⟨"AcidCity$City", "loseGas", "(II)V"⟩, 10), (⟨"AcidCity$City", "runGarden", "(I)V"⟩, 10), (⟨"AcidCity$City", "runStill", "(I)V"⟩, 10), (⟨"AcidCity$City", "runRotor", "(I)V"⟩, 10), (⟨"AcidCity$City", "runProbe", "(I)V"⟩, 10), (⟨"AcidCity$City", "breathe", "(I)V"⟩, 10)]
theorem lw_r1 : ∀ q ∈ lw_privs_1, lw_okq q := List.forall_mem_cons.mpr ⟨lw_p0, List.forall_mem_cons.mpr ⟨lw_p1, List.forall_mem_cons.mpr ⟨lw_p2, List.forall_mem_cons.mpr ⟨lw_p3, List.forall_mem_cons.mpr ⟨lw_p4, List.forall_mem_cons.mpr ⟨lw_p5, List.forall_mem_cons.mpr ⟨lw_p6, List.forall_mem_cons.mpr ⟨lw_p7, List.forall_mem_cons.mpr ⟨lw_p8, List.forall_mem_cons.mpr ⟨lw_p9, List.forall_mem_cons.mpr ⟨lw_p10, List.forall_mem_cons.mpr ⟨lw_p11, List.forall_mem_cons.mpr ⟨lw_p12, List.forall_mem_cons.mpr ⟨lw_p13, List.forall_mem_cons.mpr ⟨lw_p14, List.forall_mem_cons.mpr ⟨lw_p15, fun _ h => absurd h List.not_mem_nil⟩⟩⟩⟩⟩⟩⟩⟩⟩⟩⟩⟩⟩⟩⟩⟩
theorem lw_p16 : lw_okq (⟨"AcidCity$City", "rise", "()V"⟩, 10) := ⟨⟨by decide +kernel, by decide +kernel⟩, List.mem_of_getElem? (i := 32) (by decide +kernel), List.mem_of_getElem? (i := 935) (by decide +kernel), List.mem_of_getElem? (i := 936) (by decide +kernel)⟩
theorem lw_p17 : lw_okq (⟨"AcidCity$City", "sendReports", "()V"⟩, 10) := ⟨⟨by decide +kernel, by decide +kernel⟩, List.mem_of_getElem? (i := 32) (by decide +kernel), List.mem_of_getElem? (i := 945) (by decide +kernel), List.mem_of_getElem? (i := 946) (by decide +kernel)⟩
theorem lw_p18 : lw_okq (⟨"AcidCity$Tape", "addFour", "(I)V"⟩, 11) := ⟨⟨by decide +kernel, by decide +kernel⟩, List.mem_of_getElem? (i := 388) (by decide +kernel), List.mem_of_getElem? (i := 1001) (by decide +kernel), List.mem_of_getElem? (i := 1002) (by decide +kernel)⟩
theorem lw_p19 : lw_okq (⟨"AcidCity$Tape", "behindBlanks", "(I)I"⟩, 11) := ⟨⟨by decide +kernel, by decide +kernel⟩, List.mem_of_getElem? (i := 388) (by decide +kernel), List.mem_of_getElem? (i := 1017) (by decide +kernel), List.mem_of_getElem? (i := 1018) (by decide +kernel)⟩
theorem lw_p20 : lw_okq (⟨"AcidCity$Tape", "behindWord", "(I)I"⟩, 11) := ⟨⟨by decide +kernel, by decide +kernel⟩, List.mem_of_getElem? (i := 388) (by decide +kernel), List.mem_of_getElem? (i := 1021) (by decide +kernel), List.mem_of_getElem? (i := 1022) (by decide +kernel)⟩
theorem lw_p21 : lw_okq (⟨"AcidCity$Tape", "keyBetween", "(II)I"⟩, 11) := ⟨⟨by decide +kernel, by decide +kernel⟩, List.mem_of_getElem? (i := 388) (by decide +kernel), List.mem_of_getElem? (i := 1031) (by decide +kernel), List.mem_of_getElem? (i := 1032) (by decide +kernel)⟩
theorem lw_p22 : lw_okq (⟨"AcidCity$Tape", "isWord", "(Ljava/lang/String;II)Z"⟩, 11) := ⟨⟨by decide +kernel, by decide +kernel⟩, List.mem_of_getElem? (i := 388) (by decide +kernel), List.mem_of_getElem? (i := 1044) (by decide +kernel), List.mem_of_getElem? (i := 1045) (by decide +kernel)⟩
theorem lw_p23 : lw_okq (⟨"AcidCity$Tape", "takePart", "(II)Z"⟩, 11) := ⟨⟨by decide +kernel, by decide +kernel⟩, List.mem_of_getElem? (i := 388) (by decide +kernel), List.mem_of_getElem? (i := 1097) (by decide +kernel), List.mem_of_getElem? (i := 1098) (by decide +kernel)⟩
theorem lw_p24 : lw_okq (⟨"AcidCity$Tape", "takeLeaf", "(I)Z"⟩, 11) := ⟨⟨by decide +kernel, by decide +kernel⟩, List.mem_of_getElem? (i := 388) (by decide +kernel), List.mem_of_getElem? (i := 1164) (by decide +kernel), List.mem_of_getElem? (i := 1165) (by decide +kernel)⟩
theorem lw_p25 : lw_okq (⟨"AcidCity$Tape", "emit", "(I)Z"⟩, 11) := ⟨⟨by decide +kernel, by decide +kernel⟩, List.mem_of_getElem? (i := 388) (by decide +kernel), List.mem_of_getElem? (i := 1168) (by decide +kernel), List.mem_of_getElem? (i := 1169) (by decide +kernel)⟩
theorem lw_p26 : lw_okq (⟨"AcidCity$Tape", "numberBetween", "(II)I"⟩, 11) := ⟨⟨by decide +kernel, by decide +kernel⟩, List.mem_of_getElem? (i := 388) (by decide +kernel), List.mem_of_getElem? (i := 1172) (by decide +kernel), List.mem_of_getElem? (i := 1173) (by decide +kernel)⟩
theorem lw_p27 : lw_okq (⟨"AcidCity$Tape", "push", "(I)Z"⟩, 11) := ⟨⟨by decide +kernel, by decide +kernel⟩, List.mem_of_getElem? (i := 388) (by decide +kernel), List.mem_of_getElem? (i := 1176) (by decide +kernel), List.mem_of_getElem? (i := 1177) (by decide +kernel)⟩
theorem lw_p28 : lw_okq (⟨"AcidCity$Tape", "takeSign", "(I)Z"⟩, 11) := ⟨⟨by decide +kernel, by decide +kernel⟩, List.mem_of_getElem? (i := 388) (by decide +kernel), List.mem_of_getElem? (i := 1180) (by decide +kernel), List.mem_of_getElem? (i := 1181) (by decide +kernel)⟩
theorem lw_p29 : lw_okq (⟨"AcidCity$Tape", "close", "()Z"⟩, 11) := ⟨⟨by decide +kernel, by decide +kernel⟩, List.mem_of_getElem? (i := 388) (by decide +kernel), List.mem_of_getElem? (i := 1184) (by decide +kernel), List.mem_of_getElem? (i := 1185) (by decide +kernel)⟩
theorem lw_p30 : lw_okq (⟨"AcidCity$Tape", "settle", "(I)V"⟩, 11) := ⟨⟨by decide +kernel, by decide +kernel⟩, List.mem_of_getElem? (i := 388) (by decide +kernel), List.mem_of_getElem? (i := 1188) (by decide +kernel), List.mem_of_getElem? (i := 1189) (by decide +kernel)⟩
theorem lw_p31 : lw_okq (⟨"AcidCity$Charter", "voters", "(LAcidCity$City;)I"⟩, 14) := ⟨⟨by decide +kernel, by decide +kernel⟩, List.mem_of_getElem? (i := 255) (by decide +kernel), List.mem_of_getElem? (i := 1245) (by decide +kernel), List.mem_of_getElem? (i := 1246) (by decide +kernel)⟩
def lw_privs_2 : List (MethodName × Nat) := [(⟨"AcidCity$City", "rise", "()V"⟩, 10), (⟨"AcidCity$City", "sendReports", "()V"⟩, 10), (⟨"AcidCity$Tape", "addFour", "(I)V"⟩, 11), (⟨"AcidCity$Tape", "behindBlanks", "(I)I"⟩, 11), (⟨"AcidCity$Tape", "behindWord", "(I)I"⟩, 11), (⟨"AcidCity$Tape", "keyBetween", "(II)I"⟩, 11), (⟨"AcidCity$Tape", "isWord", "(Ljava/lang/String;II)Z"⟩, 11), (⟨"AcidCity$Tape", "takePart", "(II)Z"⟩, 11), (⟨"AcidCity$Tape", "takeLeaf", "(I)Z"⟩, 11), (⟨"AcidCity$Tape", "emit", "(I)Z"⟩, 11), (⟨"AcidCity$Tape", "numberBetween", "(II)I"⟩, 11), (⟨"AcidCity$Tape", "push", "(I)Z"⟩, 11), (⟨"AcidCity$Tape", "takeSign", "(I)Z"⟩, 11), (⟨"AcidCity$Tape", "close", "()Z"⟩, 11), (⟨"AcidCity$Tape", "settle", "(I)V"⟩, 11), (⟨"AcidCity$Charter", "voters", "(LAcidCity$City;)I"⟩, 14)]
theorem lw_r2 : ∀ q ∈ lw_privs_2, lw_okq q := List.forall_mem_cons.mpr ⟨lw_p16, List.forall_mem_cons.mpr ⟨lw_p17, List.forall_mem_cons.mpr ⟨lw_p18, List.forall_mem_cons.mpr ⟨lw_p19, List.forall_mem_cons.mpr ⟨lw_p20, List.forall_mem_cons.mpr ⟨lw_p21, List.forall_mem_cons.mpr ⟨lw_p22, List.forall_mem_cons.mpr ⟨lw_p23, List.forall_mem_cons.mpr ⟨lw_p24, List.forall_mem_cons.mpr ⟨lw_p25, List.forall_mem_cons.mpr ⟨lw_p26, List.forall_mem_cons.mpr ⟨lw_p27, List.forall_mem_cons.mpr ⟨lw_p28, List.forall_mem_cons.mpr ⟨lw_p29, List.forall_mem_cons.mpr ⟨lw_p30, List.forall_mem_cons.mpr ⟨lw_p31, fun _ h => absurd h List.not_mem_nil⟩⟩⟩⟩⟩⟩⟩⟩⟩⟩⟩⟩⟩⟩⟩⟩
theorem lw_p32 : lw_okq (⟨"AcidCity$Charter", "partOf", "(LAcidCity$City;I)I"⟩, 14) := ⟨⟨by decide +kernel, by decide +kernel⟩, List.mem_of_getElem? (i := 255) (by decide +kernel), List.mem_of_getElem? (i := 1274) (by decide +kernel), List.mem_of_getElem? (i := 1275) (by decide +kernel)⟩
theorem lw_p33 : lw_okq (⟨"AcidCity$Charter", "shedWorth", "(LAcidCity$City;I)I"⟩, 14) := ⟨⟨by decide +kernel, by decide +kernel⟩, List.mem_of_getElem? (i := 255) (by decide +kernel), List.mem_of_getElem? (i := 1288) (by decide +kernel), List.mem_of_getElem? (i := 1289) (by decide +kernel)⟩
theorem lw_p34 : lw_okq (⟨"AcidCity$Charter", "putWork", "(LAcidCity$City;I)V"⟩, 14) := ⟨⟨by decide +kernel, by decide +kernel⟩, List.mem_of_getElem? (i := 255) (by decide +kernel), List.mem_of_getElem? (i := 1293) (by decide +kernel), List.mem_of_getElem? (i := 1294) (by decide +kernel)⟩
theorem lw_p35 : lw_okq (⟨"AcidCity$Gauges", "hasPlace", "(II)Z"⟩, 3) := ⟨⟨by decide +kernel, by decide +kernel⟩, List.mem_of_getElem? (i := 433) (by decide +kernel), List.mem_of_getElem? (i := 1335) (by decide +kernel), List.mem_of_getElem? (i := 1336) (by decide +kernel)⟩
theorem lw_p36 : lw_okq (⟨"AcidCity$Gauges", "middleAt", "(II)I"⟩, 3) := ⟨⟨by decide +kernel, by decide +kernel⟩, List.mem_of_getElem? (i := 433) (by decide +kernel), List.mem_of_getElem? (i := 1354) (by decide +kernel), List.mem_of_getElem? (i := 1355) (by decide +kernel)⟩
theorem lw_p37 : lw_okq (⟨"AcidCity$Gauges", "hasPlaces", "(III)Z"⟩, 3) := ⟨⟨by decide +kernel, by decide +kernel⟩, List.mem_of_getElem? (i := 433) (by decide +kernel), List.mem_of_getElem? (i := 1373) (by decide +kernel), List.mem_of_getElem? (i := 1374) (by decide +kernel)⟩
theorem lw_p38 : lw_okq (⟨"AcidCity$Desk", "agrees", "(I)Z"⟩, 16) := ⟨⟨by decide +kernel, by decide +kernel⟩, List.mem_of_getElem? (i := 313) (by decide +kernel), List.mem_of_getElem? (i := 1390) (by decide +kernel), List.mem_of_getElem? (i := 1391) (by decide +kernel)⟩
theorem lw_p39 : lw_okq (⟨"AcidCity$Desk", "mostAlike", "(II)I"⟩, 16) := ⟨⟨by decide +kernel, by decide +kernel⟩, List.mem_of_getElem? (i := 313) (by decide +kernel), List.mem_of_getElem? (i := 1411) (by decide +kernel), List.mem_of_getElem? (i := 1412) (by decide +kernel)⟩
theorem lw_p40 : lw_okq (⟨"AcidCity$Rounds", "begin", "(LAcidCity$City;LAcidCity$Desk;)V"⟩, 8) := ⟨⟨by decide +kernel, by decide +kernel⟩, List.mem_of_getElem? (i := 450) (by decide +kernel), List.mem_of_getElem? (i := 1429) (by decide +kernel), List.mem_of_getElem? (i := 1430) (by decide +kernel)⟩
theorem lw_p41 : lw_okq (⟨"AcidCity$Rounds", "foretellAll", "(LAcidCity$Works;I)V"⟩, 8) := ⟨⟨by decide +kernel, by decide +kernel⟩, List.mem_of_getElem? (i := 450) (by decide +kernel), List.mem_of_getElem? (i := 1438) (by decide +kernel), List.mem_of_getElem? (i := 1439) (by decide +kernel)⟩
theorem lw_p42 : lw_okq (⟨"AcidCity$Rounds", "fallOf", "(II)I"⟩, 8) := ⟨⟨by decide +kernel, by decide +kernel⟩, List.mem_of_getElem? (i := 450) (by decide +kernel), List.mem_of_getElem? (i := 1443) (by decide +kernel), List.mem_of_getElem? (i := 1444) (by decide +kernel)⟩
theorem lw_p43 : lw_okq (⟨"AcidCity$Rounds", "sewNext", "(LAcidCity$Works;I)I"⟩, 8) := ⟨⟨by decide +kernel, by decide +kernel⟩, List.mem_of_getElem? (i := 450) (by decide +kernel), List.mem_of_getElem? (i := 1447) (by decide +kernel), List.mem_of_getElem? (i := 1448) (by decide +kernel)⟩
theorem lw_p44 : lw_okq (⟨"AcidCity$Rounds", "wearAll", "(LAcidCity$Works;I)V"⟩, 8) := ⟨⟨by decide +kernel, by decide +kernel⟩, List.mem_of_getElem? (i := 450) (by decide +kernel), List.mem_of_getElem? (i := 1451) (by decide +kernel), List.mem_of_getElem? (i := 1452) (by decide +kernel)⟩
theorem lw_p45 : lw_okq (⟨"AcidCity$Dark", "choose", "(LAcidCity$Desk;II)V"⟩, 2) := ⟨⟨by decide +kernel, by decide +kernel⟩, List.mem_of_getElem? (i := 483) (by decide +kernel), List.mem_of_getElem? (i := 1475) (by decide +kernel), List.mem_of_getElem? (i := 1476) (by decide +kernel)⟩
theorem lw_p46 : lw_okq (⟨"AcidCity$Desk", "sumOf", "([II)I"⟩, 16) := ⟨⟨by decide +kernel, by decide +kernel⟩, List.mem_of_getElem? (i := 313) (by decide +kernel), List.mem_of_getElem? (i := 1531) (by decide +kernel), List.mem_of_getElem? (i := 1532) (by decide +kernel)⟩
theorem lw_p47 : lw_okq (⟨"AcidCity$Order", "goOn", "(LAcidCity$Desk;IIII)V"⟩, 5) := ⟨⟨by decide +kernel, by decide +kernel⟩, List.mem_of_getElem? (i := 497) (by decide +kernel), List.mem_of_getElem? (i := 1552) (by decide +kernel), List.mem_of_getElem? (i := 1553) (by decide +kernel)⟩
def lw_privs_3 : List (MethodName × Nat) := [(⟨"AcidCity$Charter", "partOf", "(LAcidCity$City;I)I"⟩, 14), (⟨"AcidCity$Charter", "shedWorth", "(LAcidCity$City;I)I"⟩, 14), (⟨"AcidCity$Charter", "putWork", "(LAcidCity$City;I)V"⟩, 14), (⟨"AcidCity$Gauges", "hasPlace", "(II)Z"⟩, 3), (⟨"AcidCity$Gauges", "middleAt", "(II)I"⟩, 3), (⟨"AcidCity$Gauges", "hasPlaces", "(III)Z"⟩, 3), (⟨"AcidCity$Desk", "agrees", "(I)Z"⟩, 16), (⟨"AcidCity$Desk", "mostAlike", "(II)I"⟩, 16), (⟨"AcidCity$Rounds", "begin", "(LAcidCity$City;LAcidCity$Desk;)V"⟩, 8), (⟨"AcidCity$Rounds", "foretellAll", "(LAcidCity$Works;I)V"⟩, 8), (⟨"AcidCity$Rounds", "fallOf", "(II)I"⟩, 8), (⟨"AcidCity$Rounds", "sewNext", "(LAcidCity$Works;I)I"⟩, 8), (⟨"AcidCity$Rounds", "wearAll", "(LAcidCity$Works;I)V"⟩, 8), (⟨"AcidCity$Dark", "choose", "(LAcidCity$Desk;II)V"⟩, 2), (⟨"AcidCity$Desk", "sumOf", "([II)I"⟩, 16), (⟨"AcidCity$Order", "goOn", "(LAcidCity$Desk;IIII)V"⟩, 5)]
theorem lw_r3 : ∀ q ∈ lw_privs_3, lw_okq q := List.forall_mem_cons.mpr ⟨lw_p32, List.forall_mem_cons.mpr ⟨lw_p33, List.forall_mem_cons.mpr ⟨lw_p34, List.forall_mem_cons.mpr ⟨lw_p35, List.forall_mem_cons.mpr ⟨lw_p36, List.forall_mem_cons.mpr ⟨lw_p37, List.forall_mem_cons.mpr ⟨lw_p38, List.forall_mem_cons.mpr ⟨lw_p39, List.forall_mem_cons.mpr ⟨lw_p40, List.forall_mem_cons.mpr ⟨lw_p41, List.forall_mem_cons.mpr ⟨lw_p42, List.forall_mem_cons.mpr ⟨lw_p43, List.forall_mem_cons.mpr ⟨lw_p44, List.forall_mem_cons.mpr ⟨lw_p45, List.forall_mem_cons.mpr ⟨lw_p46, List.forall_mem_cons.mpr ⟨lw_p47, fun _ h => absurd h List.not_mem_nil⟩⟩⟩⟩⟩⟩⟩⟩⟩⟩⟩⟩⟩⟩⟩⟩
theorem lw_p48 : lw_okq (⟨"AcidCity$Order", "take", "(I)V"⟩, 5) := ⟨⟨by decide +kernel, by decide +kernel⟩, List.mem_of_getElem? (i := 497) (by decide +kernel), List.mem_of_getElem? (i := 1556) (by decide +kernel), List.mem_of_getElem? (i := 1557) (by decide +kernel)⟩
theorem lw_p49 : lw_okq (⟨"AcidCity", "checkLoads", "(III)I"⟩, 16) := ⟨⟨by decide +kernel, by decide +kernel⟩, List.mem_of_getElem? (i := 24) (by decide +kernel), List.mem_of_getElem? (i := 1575) (by decide +kernel), List.mem_of_getElem? (i := 1576) (by decide +kernel)⟩
theorem lw_p50 : lw_okq (⟨"AcidCity", "firstWrong", "(II)I"⟩, 16) := ⟨⟨by decide +kernel, by decide +kernel⟩, List.mem_of_getElem? (i := 24) (by decide +kernel), List.mem_of_getElem? (i := 1579) (by decide +kernel), List.mem_of_getElem? (i := 1580) (by decide +kernel)⟩
theorem lw_p51 : lw_okq (⟨"AcidCity", "checkOrder", "(II)I"⟩, 16) := ⟨⟨by decide +kernel, by decide +kernel⟩, List.mem_of_getElem? (i := 24) (by decide +kernel), List.mem_of_getElem? (i := 1583) (by decide +kernel), List.mem_of_getElem? (i := 1584) (by decide +kernel)⟩
theorem lw_p52 : lw_okq (⟨"AcidCity", "checkDay", "(II)I"⟩, 16) := ⟨⟨by decide +kernel, by decide +kernel⟩, List.mem_of_getElem? (i := 24) (by decide +kernel), List.mem_of_getElem? (i := 1587) (by decide +kernel), List.mem_of_getElem? (i := 1588) (by decide +kernel)⟩
theorem lw_p53 : lw_okq (⟨"AcidCityModel", "cellAt", "(I)I"⟩, 40) := ⟨⟨by decide +kernel, by decide +kernel⟩, List.mem_of_getElem? (i := 1651) (by decide +kernel), List.mem_of_getElem? (i := 1788) (by decide +kernel), List.mem_of_getElem? (i := 1789) (by decide +kernel)⟩
theorem lw_p54 : lw_okq (⟨"AcidCityModel", "isCell", "(I)Z"⟩, 40) := ⟨⟨by decide +kernel, by decide +kernel⟩, List.mem_of_getElem? (i := 1651) (by decide +kernel), List.mem_of_getElem? (i := 1796) (by decide +kernel), List.mem_of_getElem? (i := 1797) (by decide +kernel)⟩
theorem lw_p55 : lw_okq (⟨"AcidCityModel", "put", "(II)I"⟩, 40) := ⟨⟨by decide +kernel, by decide +kernel⟩, List.mem_of_getElem? (i := 1651) (by decide +kernel), List.mem_of_getElem? (i := 1803) (by decide +kernel), List.mem_of_getElem? (i := 1804) (by decide +kernel)⟩
theorem lw_p56 : lw_okq (⟨"AcidCityModel", "workAt", "(I)I"⟩, 40) := ⟨⟨by decide +kernel, by decide +kernel⟩, List.mem_of_getElem? (i := 1651) (by decide +kernel), List.mem_of_getElem? (i := 1812) (by decide +kernel), List.mem_of_getElem? (i := 1813) (by decide +kernel)⟩
theorem lw_p57 : lw_okq (⟨"AcidCityModel", "isGone", "(I)Z"⟩, 40) := ⟨⟨by decide +kernel, by decide +kernel⟩, List.mem_of_getElem? (i := 1651) (by decide +kernel), List.mem_of_getElem? (i := 1816) (by decide +kernel), List.mem_of_getElem? (i := 1817) (by decide +kernel)⟩
theorem lw_p58 : lw_okq (⟨"AcidCityModel", "peopleIn", "(I)I"⟩, 40) := ⟨⟨by decide +kernel, by decide +kernel⟩, List.mem_of_getElem? (i := 1651) (by decide +kernel), List.mem_of_getElem? (i := 1820) (by decide +kernel), List.mem_of_getElem? (i := 1821) (by decide +kernel)⟩
theorem lw_p59 : lw_okq (⟨"AcidCityModel", "personAt", "(I)I"⟩, 40) := ⟨⟨by decide +kernel, by decide +kernel⟩, List.mem_of_getElem? (i := 1651) (by decide +kernel), List.mem_of_getElem? (i := 1824) (by decide +kernel), List.mem_of_getElem? (i := 1825) (by decide +kernel)⟩
theorem lw_p60 : lw_okq (⟨"AcidCityModel", "isDead", "(I)Z"⟩, 40) := ⟨⟨by decide +kernel, by decide +kernel⟩, List.mem_of_getElem? (i := 1651) (by decide +kernel), List.mem_of_getElem? (i := 1828) (by decide +kernel), List.mem_of_getElem? (i := 1829) (by decide +kernel)⟩
theorem lw_p61 : lw_okq (⟨"AcidCityModel", "isLock", "(I)Z"⟩, 40) := ⟨⟨by decide +kernel, by decide +kernel⟩, List.mem_of_getElem? (i := 1651) (by decide +kernel), List.mem_of_getElem? (i := 1841) (by decide +kernel), List.mem_of_getElem? (i := 1842) (by decide +kernel)⟩
theorem lw_p62 : lw_okq (⟨"AcidCityModel", "isPerson", "(I)Z"⟩, 40) := ⟨⟨by decide +kernel, by decide +kernel⟩, List.mem_of_getElem? (i := 1651) (by decide +kernel), List.mem_of_getElem? (i := 1845) (by decide +kernel), List.mem_of_getElem? (i := 1846) (by decide +kernel)⟩
theorem lw_p63 : lw_okq (⟨"AcidCityModel", "mayOpen", "(II)Z"⟩, 40) := ⟨⟨by decide +kernel, by decide +kernel⟩, List.mem_of_getElem? (i := 1651) (by decide +kernel), List.mem_of_getElem? (i := 1849) (by decide +kernel), List.mem_of_getElem? (i := 1850) (by decide +kernel)⟩
def lw_privs_4 : List (MethodName × Nat) := [(⟨"AcidCity$Order", "take", "(I)V"⟩, 5), (⟨"AcidCity", "checkLoads", "(III)I"⟩, 16), (⟨"AcidCity", "firstWrong", "(II)I"⟩, 16), (⟨"AcidCity", "checkOrder", "(II)I"⟩, 16), (⟨"AcidCity", "checkDay", "(II)I"⟩, 16), (⟨"AcidCityModel", "cellAt", "(I)I"⟩, 40), (⟨"AcidCityModel", "isCell", "(I)Z"⟩, 40), (⟨"AcidCityModel", "put", "(II)I"⟩, 40), (⟨"AcidCityModel", "workAt", "(I)I"⟩, 40), (⟨"AcidCityModel", "isGone", "(I)Z"⟩, 40), (⟨"AcidCityModel", "peopleIn", "(I)I"⟩, 40), (⟨"AcidCityModel", "personAt", "(I)I"⟩, 40), (⟨"AcidCityModel", "isDead", "(I)Z"⟩, 40), (⟨"AcidCityModel", "isLock", "(I)Z"⟩, 40), (⟨"AcidCityModel", "isPerson", "(I)Z"⟩, 40), (⟨"AcidCityModel", "mayOpen", "(II)Z"⟩, 40)]
theorem lw_r4 : ∀ q ∈ lw_privs_4, lw_okq q := List.forall_mem_cons.mpr ⟨lw_p48, List.forall_mem_cons.mpr ⟨lw_p49, List.forall_mem_cons.mpr ⟨lw_p50, List.forall_mem_cons.mpr ⟨lw_p51, List.forall_mem_cons.mpr ⟨lw_p52, List.forall_mem_cons.mpr ⟨lw_p53, List.forall_mem_cons.mpr ⟨lw_p54, List.forall_mem_cons.mpr ⟨lw_p55, List.forall_mem_cons.mpr ⟨lw_p56, List.forall_mem_cons.mpr ⟨lw_p57, List.forall_mem_cons.mpr ⟨lw_p58, List.forall_mem_cons.mpr ⟨lw_p59, List.forall_mem_cons.mpr ⟨lw_p60, List.forall_mem_cons.mpr ⟨lw_p61, List.forall_mem_cons.mpr ⟨lw_p62, List.forall_mem_cons.mpr ⟨lw_p63, fun _ h => absurd h List.not_mem_nil⟩⟩⟩⟩⟩⟩⟩⟩⟩⟩⟩⟩⟩⟩⟩⟩
theorem lw_p64 : lw_okq (⟨"AcidCityModel", "counts", "(I)I"⟩, 40) := ⟨⟨by decide +kernel, by decide +kernel⟩, List.mem_of_getElem? (i := 1651) (by decide +kernel), List.mem_of_getElem? (i := 1853) (by decide +kernel), List.mem_of_getElem? (i := 1854) (by decide +kernel)⟩
theorem lw_p65 : lw_okq (⟨"AcidCityModel", "textAt", "(I)I"⟩, 40) := ⟨⟨by decide +kernel, by decide +kernel⟩, List.mem_of_getElem? (i := 1651) (by decide +kernel), List.mem_of_getElem? (i := 1857) (by decide +kernel), List.mem_of_getElem? (i := 1858) (by decide +kernel)⟩
theorem lw_p66 : lw_okq (⟨"AcidCityModel", "isInForce", "(I)Z"⟩, 40) := ⟨⟨by decide +kernel, by decide +kernel⟩, List.mem_of_getElem? (i := 1651) (by decide +kernel), List.mem_of_getElem? (i := 1861) (by decide +kernel), List.mem_of_getElem? (i := 1862) (by decide +kernel)⟩
theorem lw_p67 : lw_okq (⟨"AcidCityModel", "hour", "()I"⟩, 40) := ⟨⟨by decide +kernel, by decide +kernel⟩, List.mem_of_getElem? (i := 1651) (by decide +kernel), List.mem_of_getElem? (i := 1865) (by decide +kernel), List.mem_of_getElem? (i := 1866) (by decide +kernel)⟩
theorem lw_p68 : lw_okq (⟨"AcidCityModel", "nameOne", "(I)V"⟩, 40) := ⟨⟨by decide +kernel, by decide +kernel⟩, List.mem_of_getElem? (i := 1651) (by decide +kernel), List.mem_of_getElem? (i := 1869) (by decide +kernel), List.mem_of_getElem? (i := 1870) (by decide +kernel)⟩
theorem lw_p69 : lw_okq (⟨"AcidCityModel", "worked", "(I)I"⟩, 40) := ⟨⟨by decide +kernel, by decide +kernel⟩, List.mem_of_getElem? (i := 1651) (by decide +kernel), List.mem_of_getElem? (i := 1873) (by decide +kernel), List.mem_of_getElem? (i := 1874) (by decide +kernel)⟩
theorem lw_p70 : lw_okq (⟨"AcidCityModel", "level", "()I"⟩, 40) := ⟨⟨by decide +kernel, by decide +kernel⟩, List.mem_of_getElem? (i := 1651) (by decide +kernel), List.mem_of_getElem? (i := 1877) (by decide +kernel), List.mem_of_getElem? (i := 1878) (by decide +kernel)⟩
theorem lw_p71 : lw_okq (⟨"AcidCityModel", "fits", "(III)Z"⟩, 40) := ⟨⟨by decide +kernel, by decide +kernel⟩, List.mem_of_getElem? (i := 1651) (by decide +kernel), List.mem_of_getElem? (i := 1900) (by decide +kernel), List.mem_of_getElem? (i := 1901) (by decide +kernel)⟩
theorem lw_p72 : lw_okq (⟨"AcidCityModel", "isWork", "(I)Z"⟩, 40) := ⟨⟨by decide +kernel, by decide +kernel⟩, List.mem_of_getElem? (i := 1651) (by decide +kernel), List.mem_of_getElem? (i := 1905) (by decide +kernel), List.mem_of_getElem? (i := 1906) (by decide +kernel)⟩
theorem lw_p73 : lw_okq (⟨"AcidCityModel", "kindOf", "(I)I"⟩, 40) := ⟨⟨by decide +kernel, by decide +kernel⟩, List.mem_of_getElem? (i := 1651) (by decide +kernel), List.mem_of_getElem? (i := 1909) (by decide +kernel), List.mem_of_getElem? (i := 1910) (by decide +kernel)⟩
theorem lw_p74 : lw_okq (⟨"AcidCityModel", "stops", "(I)I"⟩, 40) := ⟨⟨by decide +kernel, by decide +kernel⟩, List.mem_of_getElem? (i := 1651) (by decide +kernel), List.mem_of_getElem? (i := 1943) (by decide +kernel), List.mem_of_getElem? (i := 1944) (by decide +kernel)⟩
theorem lw_p75 : lw_okq (⟨"AcidCityModel", "lift", "()J"⟩, 40) := ⟨⟨by decide +kernel, by decide +kernel⟩, List.mem_of_getElem? (i := 1651) (by decide +kernel), List.mem_of_getElem? (i := 1966) (by decide +kernel), List.mem_of_getElem? (i := 1967) (by decide +kernel)⟩
theorem lw_p76 : lw_okq (⟨"AcidCityModel", "table", "(I)I"⟩, 40) := ⟨⟨by decide +kernel, by decide +kernel⟩, List.mem_of_getElem? (i := 1651) (by decide +kernel), List.mem_of_getElem? (i := 1970) (by decide +kernel), List.mem_of_getElem? (i := 1971) (by decide +kernel)⟩
theorem lw_p77 : lw_okq (⟨"AcidCityModel", "weight", "()J"⟩, 40) := ⟨⟨by decide +kernel, by decide +kernel⟩, List.mem_of_getElem? (i := 1651) (by decide +kernel), List.mem_of_getElem? (i := 1975) (by decide +kernel), List.mem_of_getElem? (i := 1976) (by decide +kernel)⟩
theorem lw_p78 : lw_okq (⟨"AcidCityModel", "isDay", "(I)Z"⟩, 40) := ⟨⟨by decide +kernel, by decide +kernel⟩, List.mem_of_getElem? (i := 1651) (by decide +kernel), List.mem_of_getElem? (i := 1979) (by decide +kernel), List.mem_of_getElem? (i := 1980) (by decide +kernel)⟩
theorem lw_p79 : lw_okq (⟨"AcidCityModel", "minute", "()V"⟩, 40) := ⟨⟨by decide +kernel, by decide +kernel⟩, List.mem_of_getElem? (i := 1651) (by decide +kernel), List.mem_of_getElem? (i := 1990) (by decide +kernel), List.mem_of_getElem? (i := 1991) (by decide +kernel)⟩
def lw_privs_5 : List (MethodName × Nat) := [(⟨"AcidCityModel", "counts", "(I)I"⟩, 40), (⟨"AcidCityModel", "textAt", "(I)I"⟩, 40), (⟨"AcidCityModel", "isInForce", "(I)Z"⟩, 40), (⟨"AcidCityModel", "hour", "()I"⟩, 40), (⟨"AcidCityModel", "nameOne", "(I)V"⟩, 40), (⟨"AcidCityModel", "worked", "(I)I"⟩, 40), (⟨"AcidCityModel", "level", "()I"⟩, 40), (⟨"AcidCityModel", "fits", "(III)Z"⟩, 40), (⟨"AcidCityModel", "isWork", "(I)Z"⟩, 40), (⟨"AcidCityModel", "kindOf", "(I)I"⟩, 40), (⟨"AcidCityModel", "stops", "(I)I"⟩, 40), (⟨"AcidCityModel", "lift", "()J"⟩, 40), (⟨"AcidCityModel", "table", "(I)I"⟩, 40), (⟨"AcidCityModel", "weight", "()J"⟩, 40), (⟨"AcidCityModel", "isDay", "(I)Z"⟩, 40), (⟨"AcidCityModel", "minute", "()V"⟩, 40)]
theorem lw_r5 : ∀ q ∈ lw_privs_5, lw_okq q := List.forall_mem_cons.mpr ⟨lw_p64, List.forall_mem_cons.mpr ⟨lw_p65, List.forall_mem_cons.mpr ⟨lw_p66, List.forall_mem_cons.mpr ⟨lw_p67, List.forall_mem_cons.mpr ⟨lw_p68, List.forall_mem_cons.mpr ⟨lw_p69, List.forall_mem_cons.mpr ⟨lw_p70, List.forall_mem_cons.mpr ⟨lw_p71, List.forall_mem_cons.mpr ⟨lw_p72, List.forall_mem_cons.mpr ⟨lw_p73, List.forall_mem_cons.mpr ⟨lw_p74, List.forall_mem_cons.mpr ⟨lw_p75, List.forall_mem_cons.mpr ⟨lw_p76, List.forall_mem_cons.mpr ⟨lw_p77, List.forall_mem_cons.mpr ⟨lw_p78, List.forall_mem_cons.mpr ⟨lw_p79, fun _ h => absurd h List.not_mem_nil⟩⟩⟩⟩⟩⟩⟩⟩⟩⟩⟩⟩⟩⟩⟩⟩
theorem lw_p80 : lw_okq (⟨"AcidCityModel", "come", "()V"⟩, 40) := ⟨⟨by decide +kernel, by decide +kernel⟩, List.mem_of_getElem? (i := 1651) (by decide +kernel), List.mem_of_getElem? (i := 1994) (by decide +kernel), List.mem_of_getElem? (i := 1995) (by decide +kernel)⟩
theorem lw_p81 : lw_okq (⟨"AcidCityModel", "knows", "(III)V"⟩, 40) := ⟨⟨by decide +kernel, by decide +kernel⟩, List.mem_of_getElem? (i := 1651) (by decide +kernel), List.mem_of_getElem? (i := 1998) (by decide +kernel), List.mem_of_getElem? (i := 1999) (by decide +kernel)⟩
theorem lw_p82 : lw_okq (⟨"AcidCityModel", "works", "(I)V"⟩, 40) := ⟨⟨by decide +kernel, by decide +kernel⟩, List.mem_of_getElem? (i := 1651) (by decide +kernel), List.mem_of_getElem? (i := 2002) (by decide +kernel), List.mem_of_getElem? (i := 2003) (by decide +kernel)⟩
theorem lw_p83 : lw_okq (⟨"AcidCityModel", "garden", "(I)V"⟩, 40) := ⟨⟨by decide +kernel, by decide +kernel⟩, List.mem_of_getElem? (i := 1651) (by decide +kernel), List.mem_of_getElem? (i := 2006) (by decide +kernel), List.mem_of_getElem? (i := 2007) (by decide +kernel)⟩
theorem lw_p84 : lw_okq (⟨"AcidCityModel", "part", "(II)I"⟩, 40) := ⟨⟨by decide +kernel, by decide +kernel⟩, List.mem_of_getElem? (i := 1651) (by decide +kernel), List.mem_of_getElem? (i := 2010) (by decide +kernel), List.mem_of_getElem? (i := 2011) (by decide +kernel)⟩
theorem lw_p85 : lw_okq (⟨"AcidCityModel", "comes", "(III)V"⟩, 40) := ⟨⟨by decide +kernel, by decide +kernel⟩, List.mem_of_getElem? (i := 1651) (by decide +kernel), List.mem_of_getElem? (i := 2017) (by decide +kernel), List.mem_of_getElem? (i := 2018) (by decide +kernel)⟩
theorem lw_p86 : lw_okq (⟨"AcidCityModel", "still", "(I)V"⟩, 40) := ⟨⟨by decide +kernel, by decide +kernel⟩, List.mem_of_getElem? (i := 1651) (by decide +kernel), List.mem_of_getElem? (i := 2021) (by decide +kernel), List.mem_of_getElem? (i := 2022) (by decide +kernel)⟩
theorem lw_p87 : lw_okq (⟨"AcidCityModel", "isCovered", "(I)Z"⟩, 40) := ⟨⟨by decide +kernel, by decide +kernel⟩, List.mem_of_getElem? (i := 1651) (by decide +kernel), List.mem_of_getElem? (i := 2025) (by decide +kernel), List.mem_of_getElem? (i := 2026) (by decide +kernel)⟩
theorem lw_p88 : lw_okq (⟨"AcidCityModel", "wears", "(I)V"⟩, 40) := ⟨⟨by decide +kernel, by decide +kernel⟩, List.mem_of_getElem? (i := 1651) (by decide +kernel), List.mem_of_getElem? (i := 2029) (by decide +kernel), List.mem_of_getElem? (i := 2030) (by decide +kernel)⟩
theorem lw_p89 : lw_okq (⟨"AcidCityModel", "falls", "(I)V"⟩, 40) := ⟨⟨by decide +kernel, by decide +kernel⟩, List.mem_of_getElem? (i := 1651) (by decide +kernel), List.mem_of_getElem? (i := 2033) (by decide +kernel), List.mem_of_getElem? (i := 2034) (by decide +kernel)⟩
theorem lw_p90 : lw_okq (⟨"AcidCityModel", "flows", "(I)V"⟩, 40) := ⟨⟨by decide +kernel, by decide +kernel⟩, List.mem_of_getElem? (i := 1651) (by decide +kernel), List.mem_of_getElem? (i := 2037) (by decide +kernel), List.mem_of_getElem? (i := 2038) (by decide +kernel)⟩
theorem lw_p91 : lw_okq (⟨"AcidCityModel", "leaks", "(I)V"⟩, 40) := ⟨⟨by decide +kernel, by decide +kernel⟩, List.mem_of_getElem? (i := 1651) (by decide +kernel), List.mem_of_getElem? (i := 2041) (by decide +kernel), List.mem_of_getElem? (i := 2042) (by decide +kernel)⟩
theorem lw_p92 : lw_okq (⟨"AcidCityModel", "breathes", "(I)V"⟩, 40) := ⟨⟨by decide +kernel, by decide +kernel⟩, List.mem_of_getElem? (i := 1651) (by decide +kernel), List.mem_of_getElem? (i := 2046) (by decide +kernel), List.mem_of_getElem? (i := 2047) (by decide +kernel)⟩
theorem lw_p93 : lw_okq (⟨"AcidCityModel", "need", "(I)I"⟩, 40) := ⟨⟨by decide +kernel, by decide +kernel⟩, List.mem_of_getElem? (i := 1651) (by decide +kernel), List.mem_of_getElem? (i := 2050) (by decide +kernel), List.mem_of_getElem? (i := 2051) (by decide +kernel)⟩
theorem lw_p94 : lw_okq (⟨"AcidCityModel", "floats", "()V"⟩, 40) := ⟨⟨by decide +kernel, by decide +kernel⟩, List.mem_of_getElem? (i := 1651) (by decide +kernel), List.mem_of_getElem? (i := 2054) (by decide +kernel), List.mem_of_getElem? (i := 2055) (by decide +kernel)⟩
theorem lw_p95 : lw_okq (⟨"AcidCityModel", "fouls", "(I)V"⟩, 40) := ⟨⟨by decide +kernel, by decide +kernel⟩, List.mem_of_getElem? (i := 1651) (by decide +kernel), List.mem_of_getElem? (i := 2059) (by decide +kernel), List.mem_of_getElem? (i := 2060) (by decide +kernel)⟩
def lw_privs_6 : List (MethodName × Nat) := [(⟨"AcidCityModel", "come", "()V"⟩, 40), (⟨"AcidCityModel", "knows", "(III)V"⟩, 40), (⟨"AcidCityModel", "works", "(I)V"⟩, 40), (⟨"AcidCityModel", "garden", "(I)V"⟩, 40), (⟨"AcidCityModel", "part", "(II)I"⟩, 40), (⟨"AcidCityModel", "comes", "(III)V"⟩, 40), (⟨"AcidCityModel", "still", "(I)V"⟩, 40), (⟨"AcidCityModel", "isCovered", "(I)Z"⟩, 40), (⟨"AcidCityModel", "wears", "(I)V"⟩, 40), (⟨"AcidCityModel", "falls", "(I)V"⟩, 40), (⟨"AcidCityModel", "flows", "(I)V"⟩, 40), (⟨"AcidCityModel", "leaks", "(I)V"⟩, 40), (⟨"AcidCityModel", "breathes", "(I)V"⟩, 40), (⟨"AcidCityModel", "need", "(I)I"⟩, 40), (⟨"AcidCityModel", "floats", "()V"⟩, 40), (⟨"AcidCityModel", "fouls", "(I)V"⟩, 40)]
theorem lw_r6 : ∀ q ∈ lw_privs_6, lw_okq q := List.forall_mem_cons.mpr ⟨lw_p80, List.forall_mem_cons.mpr ⟨lw_p81, List.forall_mem_cons.mpr ⟨lw_p82, List.forall_mem_cons.mpr ⟨lw_p83, List.forall_mem_cons.mpr ⟨lw_p84, List.forall_mem_cons.mpr ⟨lw_p85, List.forall_mem_cons.mpr ⟨lw_p86, List.forall_mem_cons.mpr ⟨lw_p87, List.forall_mem_cons.mpr ⟨lw_p88, List.forall_mem_cons.mpr ⟨lw_p89, List.forall_mem_cons.mpr ⟨lw_p90, List.forall_mem_cons.mpr ⟨lw_p91, List.forall_mem_cons.mpr ⟨lw_p92, List.forall_mem_cons.mpr ⟨lw_p93, List.forall_mem_cons.mpr ⟨lw_p94, List.forall_mem_cons.mpr ⟨lw_p95, fun _ h => absurd h List.not_mem_nil⟩⟩⟩⟩⟩⟩⟩⟩⟩⟩⟩⟩⟩⟩⟩⟩
theorem lw_p96 : lw_okq (⟨"AcidCityModel", "sends", "()V"⟩, 40) := ⟨⟨by decide +kernel, by decide +kernel⟩, List.mem_of_getElem? (i := 1651) (by decide +kernel), List.mem_of_getElem? (i := 2063) (by decide +kernel), List.mem_of_getElem? (i := 2064) (by decide +kernel)⟩
theorem lw_p97 : lw_okq (⟨"AcidCityModel", "hasWatch", "(I)Z"⟩, 40) := ⟨⟨by decide +kernel, by decide +kernel⟩, List.mem_of_getElem? (i := 1651) (by decide +kernel), List.mem_of_getElem? (i := 2067) (by decide +kernel), List.mem_of_getElem? (i := 2068) (by decide +kernel)⟩
theorem lw_p98 : lw_okq (⟨"AcidCityModel", "mayBirth", "()Z"⟩, 40) := ⟨⟨by decide +kernel, by decide +kernel⟩, List.mem_of_getElem? (i := 1651) (by decide +kernel), List.mem_of_getElem? (i := 2089) (by decide +kernel), List.mem_of_getElem? (i := 2090) (by decide +kernel)⟩
theorem lw_p99 : lw_okq (⟨"AcidCityModel", "parse", "()I"⟩, 40) := ⟨⟨by decide +kernel, by decide +kernel⟩, List.mem_of_getElem? (i := 1651) (by decide +kernel), List.mem_of_getElem? (i := 2106) (by decide +kernel), List.mem_of_getElem? (i := 2107) (by decide +kernel)⟩
theorem lw_p100 : lw_okq (⟨"AcidCityModel", "next", "()V"⟩, 40) := ⟨⟨by decide +kernel, by decide +kernel⟩, List.mem_of_getElem? (i := 1651) (by decide +kernel), List.mem_of_getElem? (i := 2110) (by decide +kernel), List.mem_of_getElem? (i := 2111) (by decide +kernel)⟩
theorem lw_p101 : lw_okq (⟨"AcidCityModel", "isLetter", "(I)Z"⟩, 40) := ⟨⟨by decide +kernel, by decide +kernel⟩, List.mem_of_getElem? (i := 1651) (by decide +kernel), List.mem_of_getElem? (i := 2114) (by decide +kernel), List.mem_of_getElem? (i := 2115) (by decide +kernel)⟩
theorem lw_p102 : lw_okq (⟨"AcidCityModel", "isDigit", "(I)Z"⟩, 40) := ⟨⟨by decide +kernel, by decide +kernel⟩, List.mem_of_getElem? (i := 1651) (by decide +kernel), List.mem_of_getElem? (i := 2120) (by decide +kernel), List.mem_of_getElem? (i := 2121) (by decide +kernel)⟩
theorem lw_p103 : lw_okq (⟨"AcidCityModel", "key", "()I"⟩, 40) := ⟨⟨by decide +kernel, by decide +kernel⟩, List.mem_of_getElem? (i := 1651) (by decide +kernel), List.mem_of_getElem? (i := 2126) (by decide +kernel), List.mem_of_getElem? (i := 2127) (by decide +kernel)⟩
theorem lw_p104 : lw_okq (⟨"AcidCityModel", "isWordAt", "(IIIII)Z"⟩, 40) := ⟨⟨by decide +kernel, by decide +kernel⟩, List.mem_of_getElem? (i := 1651) (by decide +kernel), List.mem_of_getElem? (i := 2130) (by decide +kernel), List.mem_of_getElem? (i := 2131) (by decide +kernel)⟩
theorem lw_p105 : lw_okq (⟨"AcidCityModel", "either", "(I)Z"⟩, 40) := ⟨⟨by decide +kernel, by decide +kernel⟩, List.mem_of_getElem? (i := 1651) (by decide +kernel), List.mem_of_getElem? (i := 2134) (by decide +kernel), List.mem_of_getElem? (i := 2135) (by decide +kernel)⟩
theorem lw_p106 : lw_okq (⟨"AcidCityModel", "both", "(I)Z"⟩, 40) := ⟨⟨by decide +kernel, by decide +kernel⟩, List.mem_of_getElem? (i := 1651) (by decide +kernel), List.mem_of_getElem? (i := 2138) (by decide +kernel), List.mem_of_getElem? (i := 2139) (by decide +kernel)⟩
theorem lw_p107 : lw_okq (⟨"AcidCityModel", "test", "(I)Z"⟩, 40) := ⟨⟨by decide +kernel, by decide +kernel⟩, List.mem_of_getElem? (i := 1651) (by decide +kernel), List.mem_of_getElem? (i := 2142) (by decide +kernel), List.mem_of_getElem? (i := 2143) (by decide +kernel)⟩
theorem lw_p108 : lw_okq (⟨"AcidCityModel", "sum", "(I)Z"⟩, 40) := ⟨⟨by decide +kernel, by decide +kernel⟩, List.mem_of_getElem? (i := 1651) (by decide +kernel), List.mem_of_getElem? (i := 2146) (by decide +kernel), List.mem_of_getElem? (i := 2147) (by decide +kernel)⟩
theorem lw_p109 : lw_okq (⟨"AcidCityModel", "term", "(I)Z"⟩, 40) := ⟨⟨by decide +kernel, by decide +kernel⟩, List.mem_of_getElem? (i := 1651) (by decide +kernel), List.mem_of_getElem? (i := 2150) (by decide +kernel), List.mem_of_getElem? (i := 2151) (by decide +kernel)⟩
theorem lw_p110 : lw_okq (⟨"AcidCityModel", "part0", "(I)Z"⟩, 40) := ⟨⟨by decide +kernel, by decide +kernel⟩, List.mem_of_getElem? (i := 1651) (by decide +kernel), List.mem_of_getElem? (i := 2154) (by decide +kernel), List.mem_of_getElem? (i := 2155) (by decide +kernel)⟩
theorem lw_p111 : lw_okq (⟨"AcidCityModel", "step", "(II)V"⟩, 40) := ⟨⟨by decide +kernel, by decide +kernel⟩, List.mem_of_getElem? (i := 1651) (by decide +kernel), List.mem_of_getElem? (i := 2158) (by decide +kernel), List.mem_of_getElem? (i := 2159) (by decide +kernel)⟩
def lw_privs_7 : List (MethodName × Nat) := [(⟨"AcidCityModel", "sends", "()V"⟩, 40), (⟨"AcidCityModel", "hasWatch", "(I)Z"⟩, 40), (⟨"AcidCityModel", "mayBirth", "()Z"⟩, 40), (⟨"AcidCityModel", "parse", "()I"⟩, 40), (⟨"AcidCityModel", "next", "()V"⟩, 40), (⟨"AcidCityModel", "isLetter", "(I)Z"⟩, 40), (⟨"AcidCityModel", "isDigit", "(I)Z"⟩, 40), (⟨"AcidCityModel", "key", "()I"⟩, 40), (⟨"AcidCityModel", "isWordAt", "(IIIII)Z"⟩, 40), (⟨"AcidCityModel", "either", "(I)Z"⟩, 40), (⟨"AcidCityModel", "both", "(I)Z"⟩, 40), (⟨"AcidCityModel", "test", "(I)Z"⟩, 40), (⟨"AcidCityModel", "sum", "(I)Z"⟩, 40), (⟨"AcidCityModel", "term", "(I)Z"⟩, 40), (⟨"AcidCityModel", "part0", "(I)Z"⟩, 40), (⟨"AcidCityModel", "step", "(II)V"⟩, 40)]
theorem lw_r7 : ∀ q ∈ lw_privs_7, lw_okq q := List.forall_mem_cons.mpr ⟨lw_p96, List.forall_mem_cons.mpr ⟨lw_p97, List.forall_mem_cons.mpr ⟨lw_p98, List.forall_mem_cons.mpr ⟨lw_p99, List.forall_mem_cons.mpr ⟨lw_p100, List.forall_mem_cons.mpr ⟨lw_p101, List.forall_mem_cons.mpr ⟨lw_p102, List.forall_mem_cons.mpr ⟨lw_p103, List.forall_mem_cons.mpr ⟨lw_p104, List.forall_mem_cons.mpr ⟨lw_p105, List.forall_mem_cons.mpr ⟨lw_p106, List.forall_mem_cons.mpr ⟨lw_p107, List.forall_mem_cons.mpr ⟨lw_p108, List.forall_mem_cons.mpr ⟨lw_p109, List.forall_mem_cons.mpr ⟨lw_p110, List.forall_mem_cons.mpr ⟨lw_p111, fun _ h => absurd h List.not_mem_nil⟩⟩⟩⟩⟩⟩⟩⟩⟩⟩⟩⟩⟩⟩⟩⟩
theorem lw_p112 : lw_okq (⟨"AcidCityModel", "isSign", "(I)Z"⟩, 40) := ⟨⟨by decide +kernel, by decide +kernel⟩, List.mem_of_getElem? (i := 1651) (by decide +kernel), List.mem_of_getElem? (i := 2165) (by decide +kernel), List.mem_of_getElem? (i := 2166) (by decide +kernel)⟩
theorem lw_p113 : lw_okq (⟨"AcidCityModel", "isText", "(I)Z"⟩, 40) := ⟨⟨by decide +kernel, by decide +kernel⟩, List.mem_of_getElem? (i := 1651) (by decide +kernel), List.mem_of_getElem? (i := 2173) (by decide +kernel), List.mem_of_getElem? (i := 2174) (by decide +kernel)⟩
theorem lw_p114 : lw_okq (⟨"AcidCityModel", "mayVote", "(I)Z"⟩, 40) := ⟨⟨by decide +kernel, by decide +kernel⟩, List.mem_of_getElem? (i := 1651) (by decide +kernel), List.mem_of_getElem? (i := 2185) (by decide +kernel), List.mem_of_getElem? (i := 2186) (by decide +kernel)⟩
theorem lw_p115 : lw_okq (⟨"AcidCityModel", "findShed", "()I"⟩, 40) := ⟨⟨by decide +kernel, by decide +kernel⟩, List.mem_of_getElem? (i := 1651) (by decide +kernel), List.mem_of_getElem? (i := 2209) (by decide +kernel), List.mem_of_getElem? (i := 2210) (by decide +kernel)⟩
theorem lw_p116 : lw_okq (⟨"AcidCityModel", "worthOf", "(II)I"⟩, 40) := ⟨⟨by decide +kernel, by decide +kernel⟩, List.mem_of_getElem? (i := 1651) (by decide +kernel), List.mem_of_getElem? (i := 2213) (by decide +kernel), List.mem_of_getElem? (i := 2214) (by decide +kernel)⟩
theorem lw_p117 : lw_okq (⟨"AcidCityModel", "readOf", "(II)I"⟩, 40) := ⟨⟨by decide +kernel, by decide +kernel⟩, List.mem_of_getElem? (i := 1651) (by decide +kernel), List.mem_of_getElem? (i := 2243) (by decide +kernel), List.mem_of_getElem? (i := 2244) (by decide +kernel)⟩
theorem lw_p118 : lw_okq (⟨"AcidCityModel", "isNumber", "(II)Z"⟩, 40) := ⟨⟨by decide +kernel, by decide +kernel⟩, List.mem_of_getElem? (i := 1651) (by decide +kernel), List.mem_of_getElem? (i := 2247) (by decide +kernel), List.mem_of_getElem? (i := 2248) (by decide +kernel)⟩
theorem lw_p119 : lw_okq (⟨"AcidCityModel", "left", "()I"⟩, 40) := ⟨⟨by decide +kernel, by decide +kernel⟩, List.mem_of_getElem? (i := 1651) (by decide +kernel), List.mem_of_getElem? (i := 2276) (by decide +kernel), List.mem_of_getElem? (i := 2277) (by decide +kernel)⟩
theorem lw_p120 : lw_okq (⟨"AcidCityModel", "alike", "(II)I"⟩, 40) := ⟨⟨by decide +kernel, by decide +kernel⟩, List.mem_of_getElem? (i := 1651) (by decide +kernel), List.mem_of_getElem? (i := 2287) (by decide +kernel), List.mem_of_getElem? (i := 2288) (by decide +kernel)⟩
theorem lw_p121 : lw_okq (⟨"AcidCityModel", "rounds", "(IIII)I"⟩, 40) := ⟨⟨by decide +kernel, by decide +kernel⟩, List.mem_of_getElem? (i := 1651) (by decide +kernel), List.mem_of_getElem? (i := 2300) (by decide +kernel), List.mem_of_getElem? (i := 2301) (by decide +kernel)⟩
theorem lw_p122 : lw_okq (⟨"AcidCityModel", "fitters", "()I"⟩, 40) := ⟨⟨by decide +kernel, by decide +kernel⟩, List.mem_of_getElem? (i := 1651) (by decide +kernel), List.mem_of_getElem? (i := 2304) (by decide +kernel), List.mem_of_getElem? (i := 2305) (by decide +kernel)⟩
theorem lw_p123 : lw_okq (⟨"AcidCityModel", "nextSkin", "(III)I"⟩, 40) := ⟨⟨by decide +kernel, by decide +kernel⟩, List.mem_of_getElem? (i := 1651) (by decide +kernel), List.mem_of_getElem? (i := 2308) (by decide +kernel), List.mem_of_getElem? (i := 2309) (by decide +kernel)⟩
theorem lw_p124 : lw_okq (⟨"AcidCityModel", "isSkin", "(I)Z"⟩, 40) := ⟨⟨by decide +kernel, by decide +kernel⟩, List.mem_of_getElem? (i := 1651) (by decide +kernel), List.mem_of_getElem? (i := 2312) (by decide +kernel), List.mem_of_getElem? (i := 2313) (by decide +kernel)⟩
theorem lw_p125 : lw_okq (⟨"AcidCityModel", "fallsIn", "(IIII)I"⟩, 40) := ⟨⟨by decide +kernel, by decide +kernel⟩, List.mem_of_getElem? (i := 1651) (by decide +kernel), List.mem_of_getElem? (i := 2316) (by decide +kernel), List.mem_of_getElem? (i := 2317) (by decide +kernel)⟩
theorem lw_p126 : lw_okq (⟨"AcidCityModel", "weathers", "(I)V"⟩, 40) := ⟨⟨by decide +kernel, by decide +kernel⟩, List.mem_of_getElem? (i := 1651) (by decide +kernel), List.mem_of_getElem? (i := 2320) (by decide +kernel), List.mem_of_getElem? (i := 2321) (by decide +kernel)⟩
theorem lw_p127 : lw_okq (⟨"AcidCityModel", "findLoads", "(II)I"⟩, 40) := ⟨⟨by decide +kernel, by decide +kernel⟩, List.mem_of_getElem? (i := 1651) (by decide +kernel), List.mem_of_getElem? (i := 2346) (by decide +kernel), List.mem_of_getElem? (i := 2347) (by decide +kernel)⟩
def lw_privs_8 : List (MethodName × Nat) := [(⟨"AcidCityModel", "isSign", "(I)Z"⟩, 40), (⟨"AcidCityModel", "isText", "(I)Z"⟩, 40), (⟨"AcidCityModel", "mayVote", "(I)Z"⟩, 40), (⟨"AcidCityModel", "findShed", "()I"⟩, 40), (⟨"AcidCityModel", "worthOf", "(II)I"⟩, 40), (⟨"AcidCityModel", "readOf", "(II)I"⟩, 40), (⟨"AcidCityModel", "isNumber", "(II)Z"⟩, 40), (⟨"AcidCityModel", "left", "()I"⟩, 40), (⟨"AcidCityModel", "alike", "(II)I"⟩, 40), (⟨"AcidCityModel", "rounds", "(IIII)I"⟩, 40), (⟨"AcidCityModel", "fitters", "()I"⟩, 40), (⟨"AcidCityModel", "nextSkin", "(III)I"⟩, 40), (⟨"AcidCityModel", "isSkin", "(I)Z"⟩, 40), (⟨"AcidCityModel", "fallsIn", "(IIII)I"⟩, 40), (⟨"AcidCityModel", "weathers", "(I)V"⟩, 40), (⟨"AcidCityModel", "findLoads", "(II)I"⟩, 40)]
theorem lw_r8 : ∀ q ∈ lw_privs_8, lw_okq q := List.forall_mem_cons.mpr ⟨lw_p112, List.forall_mem_cons.mpr ⟨lw_p113, List.forall_mem_cons.mpr ⟨lw_p114, List.forall_mem_cons.mpr ⟨lw_p115, List.forall_mem_cons.mpr ⟨lw_p116, List.forall_mem_cons.mpr ⟨lw_p117, List.forall_mem_cons.mpr ⟨lw_p118, List.forall_mem_cons.mpr ⟨lw_p119, List.forall_mem_cons.mpr ⟨lw_p120, List.forall_mem_cons.mpr ⟨lw_p121, List.forall_mem_cons.mpr ⟨lw_p122, List.forall_mem_cons.mpr ⟨lw_p123, List.forall_mem_cons.mpr ⟨lw_p124, List.forall_mem_cons.mpr ⟨lw_p125, List.forall_mem_cons.mpr ⟨lw_p126, List.forall_mem_cons.mpr ⟨lw_p127, fun _ h => absurd h List.not_mem_nil⟩⟩⟩⟩⟩⟩⟩⟩⟩⟩⟩⟩⟩⟩⟩⟩
theorem lw_p128 : lw_okq (⟨"AcidCityModel", "harmBy", "(III)I"⟩, 40) := ⟨⟨by decide +kernel, by decide +kernel⟩, List.mem_of_getElem? (i := 1651) (by decide +kernel), List.mem_of_getElem? (i := 2351) (by decide +kernel), List.mem_of_getElem? (i := 2352) (by decide +kernel)⟩
theorem lw_p129 : lw_okq (⟨"AcidCityModel", "loadAt", "(II)I"⟩, 40) := ⟨⟨by decide +kernel, by decide +kernel⟩, List.mem_of_getElem? (i := 1651) (by decide +kernel), List.mem_of_getElem? (i := 2359) (by decide +kernel), List.mem_of_getElem? (i := 2360) (by decide +kernel)⟩
theorem lw_p130 : lw_okq (⟨"AcidCityModel", "findOrder", "(II)I"⟩, 40) := ⟨⟨by decide +kernel, by decide +kernel⟩, List.mem_of_getElem? (i := 1651) (by decide +kernel), List.mem_of_getElem? (i := 2396) (by decide +kernel), List.mem_of_getElem? (i := 2397) (by decide +kernel)⟩
theorem lw_p131 : lw_okq (⟨"AcidCityModel", "seek", "(IIIII)V"⟩, 40) := ⟨⟨by decide +kernel, by decide +kernel⟩, List.mem_of_getElem? (i := 1651) (by decide +kernel), List.mem_of_getElem? (i := 2400) (by decide +kernel), List.mem_of_getElem? (i := 2401) (by decide +kernel)⟩
theorem lw_p132 : lw_okq (⟨"AcidCityModel", "rowsOfLoads", "(II)I"⟩, 40) := ⟨⟨by decide +kernel, by decide +kernel⟩, List.mem_of_getElem? (i := 1651) (by decide +kernel), List.mem_of_getElem? (i := 2417) (by decide +kernel), List.mem_of_getElem? (i := 2418) (by decide +kernel)⟩
theorem lw_p133 : lw_okq (⟨"AcidCityModel", "dueIs", "(II)V"⟩, 40) := ⟨⟨by decide +kernel, by decide +kernel⟩, List.mem_of_getElem? (i := 1651) (by decide +kernel), List.mem_of_getElem? (i := 2421) (by decide +kernel), List.mem_of_getElem? (i := 2422) (by decide +kernel)⟩
theorem lw_p134 : lw_okq (⟨"AcidCityModel", "rowsOfOrder", "(I)I"⟩, 40) := ⟨⟨by decide +kernel, by decide +kernel⟩, List.mem_of_getElem? (i := 1651) (by decide +kernel), List.mem_of_getElem? (i := 2425) (by decide +kernel), List.mem_of_getElem? (i := 2426) (by decide +kernel)⟩
theorem lw_p135 : lw_okq (⟨"AcidCityModel", "rowsOfDay", "(I)I"⟩, 40) := ⟨⟨by decide +kernel, by decide +kernel⟩, List.mem_of_getElem? (i := 1651) (by decide +kernel), List.mem_of_getElem? (i := 2429) (by decide +kernel), List.mem_of_getElem? (i := 2430) (by decide +kernel)⟩
theorem lw_p136 : lw_okq (⟨"AcidCityModel", "oxygen", "()I"⟩, 40) := ⟨⟨by decide +kernel, by decide +kernel⟩, List.mem_of_getElem? (i := 1651) (by decide +kernel), List.mem_of_getElem? (i := 2433) (by decide +kernel), List.mem_of_getElem? (i := 2434) (by decide +kernel)⟩
def lw_privs_9 : List (MethodName × Nat) := [(⟨"AcidCityModel", "harmBy", "(III)I"⟩, 40), (⟨"AcidCityModel", "loadAt", "(II)I"⟩, 40), (⟨"AcidCityModel", "findOrder", "(II)I"⟩, 40), (⟨"AcidCityModel", "seek", "(IIIII)V"⟩, 40), (⟨"AcidCityModel", "rowsOfLoads", "(II)I"⟩, 40), (⟨"AcidCityModel", "dueIs", "(II)V"⟩, 40), (⟨"AcidCityModel", "rowsOfOrder", "(I)I"⟩, 40), (⟨"AcidCityModel", "rowsOfDay", "(I)I"⟩, 40), (⟨"AcidCityModel", "oxygen", "()I"⟩, 40)]
theorem lw_r9 : ∀ q ∈ lw_privs_9, lw_okq q := List.forall_mem_cons.mpr ⟨lw_p128, List.forall_mem_cons.mpr ⟨lw_p129, List.forall_mem_cons.mpr ⟨lw_p130, List.forall_mem_cons.mpr ⟨lw_p131, List.forall_mem_cons.mpr ⟨lw_p132, List.forall_mem_cons.mpr ⟨lw_p133, List.forall_mem_cons.mpr ⟨lw_p134, List.forall_mem_cons.mpr ⟨lw_p135, List.forall_mem_cons.mpr ⟨lw_p136, fun _ h => absurd h List.not_mem_nil⟩⟩⟩⟩⟩⟩⟩⟩⟩
def lw_privs : List (MethodName × Nat) := lw_privs_1 ++ (lw_privs_2 ++ (lw_privs_3 ++ (lw_privs_4 ++ (lw_privs_5 ++ (lw_privs_6 ++ (lw_privs_7 ++ (lw_privs_8 ++ (lw_privs_9))))))))
def lw_tbl : List Cond := k2_sels lw_privs ++ tables_1
theorem lw_privs_ok : ∀ q ∈ lw_privs, lw_okq q := by
  show ∀ q ∈ lw_privs_1 ++ (lw_privs_2 ++ (lw_privs_3 ++ (lw_privs_4 ++ (lw_privs_5 ++ (lw_privs_6 ++ (lw_privs_7 ++ (lw_privs_8 ++ (lw_privs_9)))))))), lw_okq q
  exact List.forall_mem_append.mpr ⟨lw_r1, List.forall_mem_append.mpr ⟨lw_r2, List.forall_mem_append.mpr ⟨lw_r3, List.forall_mem_append.mpr ⟨lw_r4, List.forall_mem_append.mpr ⟨lw_r5, List.forall_mem_append.mpr ⟨lw_r6, List.forall_mem_append.mpr ⟨lw_r7, List.forall_mem_append.mpr ⟨lw_r8, lw_r9⟩⟩⟩⟩⟩⟩⟩⟩

/-! names of the classes, out of NAMES.whole -/
def RX0 : String := "AcidCity$Cells"
def TX0 : u_T := fun k => match k with
  | 0 => ("AcidCity$Cells", "volume", "[I", true)
  | 1 => ("AcidCity$Cells", "hole", "[I", true)
  | 2 => ("AcidCity$Cells", "air", "[[I", true)
  | 3 => ("AcidCity$Cells", "out", "[[I", true)
  | 4 => ("AcidCity$Cells", "heard", "[[I", true)
  | 5 => ("AcidCity$Cells", "many", "I", false)
  | 6 => ("AcidCity$Cells", "one", "[I", true)
  | 7 => ("AcidCity$Cells", "other", "[I", true)
  | 8 => ("AcidCity$Cells", "width", "[I", true)
  | 9 => ("AcidCity$Cells", "open", "[I", true)
  | 10 => ("AcidCity$Cells", "locks", "I", false)
  | 11 => ("AcidCity$Cells", "report", "[[I", true)
  | _ => ("AcidCity$Cells", "reports", "I", false)
def tyX0 : Nat → FieldType := fun k => match k with
  | 0 => .array .int
  | 1 => .array .int
  | 2 => .array (.array .int)
  | 3 => .array (.array .int)
  | 4 => .array (.array .int)
  | 5 => .int
  | 6 => .array .int
  | 7 => .array .int
  | 8 => .array .int
  | 9 => .array .int
  | 10 => .int
  | 11 => .array (.array .int)
  | _ => .int
theorem nmX0 : ∀ a, a < 13 → ∀ b, b < 13 → a ≠ b → (TX0 a).2.1 ≠ (TX0 b).2.1 := by decide +kernel
theorem tyX0_ok : ∀ k, k < 13 → parseFieldDescriptor (TX0 k).2.2.1 = some (tyX0 k) := by decide +kernel
def RX1 : String := "AcidCity$Charter"
def TX1 : u_T := fun k => match k with
  | 0 => ("AcidCity$Charter", "key", "[I", true)
  | 1 => ("AcidCity$Charter", "force", "[I", true)
  | 2 => ("AcidCity$Charter", "struck", "[I", true)
  | 3 => ("AcidCity$Charter", "leaves", "[I", true)
  | 4 => ("AcidCity$Charter", "length", "[I", true)
  | 5 => ("AcidCity$Charter", "code", "[[I", true)
  | 6 => ("AcidCity$Charter", "texts", "I", false)
  | 7 => ("AcidCity$Charter", "voted", "I", false)
  | 8 => ("AcidCity$Charter", "striking", "Z", false)
  | 9 => ("AcidCity$Charter", "said", "[I", true)
  | 10 => ("AcidCity$Charter", "names", "[I", true)
  | 11 => ("AcidCity$Charter", "stack", "[I", true)
  | 12 => ("AcidCity$Charter", "parts", "[I", true)
  | _ => ("AcidCity$Charter", "ranks", "[I", true)
def tyX1 : Nat → FieldType := fun k => match k with
  | 0 => .array .int
  | 1 => .array .int
  | 2 => .array .int
  | 3 => .array .int
  | 4 => .array .int
  | 5 => .array (.array .int)
  | 6 => .int
  | 7 => .int
  | 8 => .boolean
  | 9 => .array .int
  | 10 => .array .int
  | 11 => .array .int
  | 12 => .array .int
  | _ => .array .int
theorem nmX1 : ∀ a, a < 14 → ∀ b, b < 14 → a ≠ b → (TX1 a).2.1 ≠ (TX1 b).2.1 := by decide +kernel
theorem tyX1_ok : ∀ k, k < 14 → parseFieldDescriptor (TX1 k).2.2.1 = some (tyX1 k) := by decide +kernel
def RX2 : String := "AcidCity$City"
def TX2 : u_T := fun k => match k with
  | 0 => ("AcidCity$City", "cells", "LAcidCity$Cells;", true)
  | 1 => ("AcidCity$City", "works", "LAcidCity$Works;", true)
  | 2 => ("AcidCity$City", "people", "LAcidCity$People;", true)
  | 3 => ("AcidCity$City", "stores", "[I", true)
  | 4 => ("AcidCity$City", "tables", "[[I", true)
  | 5 => ("AcidCity$City", "height", "I", false)
  | 6 => ("AcidCity$City", "phase", "I", false)
  | 7 => ("AcidCity$City", "round", "I", false)
  | 8 => ("AcidCity$City", "late", "I", false)
  | _ => ("AcidCity$City", "minute", "I", false)
def tyX2 : Nat → FieldType := fun k => match k with
  | 0 => .object "AcidCity$Cells"
  | 1 => .object "AcidCity$Works"
  | 2 => .object "AcidCity$People"
  | 3 => .array .int
  | 4 => .array (.array .int)
  | 5 => .int
  | 6 => .int
  | 7 => .int
  | 8 => .int
  | _ => .int
theorem nmX2 : ∀ a, a < 10 → ∀ b, b < 10 → a ≠ b → (TX2 a).2.1 ≠ (TX2 b).2.1 := by decide +kernel
theorem tyX2_ok : ∀ k, k < 10 → parseFieldDescriptor (TX2 k).2.2.1 = some (tyX2 k) := by decide +kernel
def RX3 : String := "AcidCity$Dark"
def TX3 : u_T := fun k => match k with
  | 0 => ("AcidCity$Dark", "harm", "[I", true)
  | _ => ("AcidCity$Dark", "chosen", "[J", true)
def tyX3 : Nat → FieldType := fun k => match k with
  | 0 => .array .int
  | _ => .array .long
theorem nmX3 : ∀ a, a < 2 → ∀ b, b < 2 → a ≠ b → (TX3 a).2.1 ≠ (TX3 b).2.1 := by decide +kernel
theorem tyX3_ok : ∀ k, k < 2 → parseFieldDescriptor (TX3 k).2.2.1 = some (tyX3 k) := by decide +kernel
def RX4 : String := "AcidCity$Desk"
def TX4 : u_T := fun k => match k with
  | 0 => ("AcidCity$Desk", "shown", "[[I", true)
  | 1 => ("AcidCity$Desk", "seen", "[I", true)
  | 2 => ("AcidCity$Desk", "drops", "[I", true)
  | 3 => ("AcidCity$Desk", "taken", "[I", true)
  | 4 => ("AcidCity$Desk", "harms", "[[I", true)
  | 5 => ("AcidCity$Desk", "orbit", "[I", true)
  | 6 => ("AcidCity$Desk", "begin", "[I", true)
  | 7 => ("AcidCity$Desk", "open", "[I", true)
  | 8 => ("AcidCity$Desk", "ships", "I", false)
  | 9 => ("AcidCity$Desk", "mass", "[I", true)
  | 10 => ("AcidCity$Desk", "worth", "[I", true)
  | 11 => ("AcidCity$Desk", "lots", "I", false)
  | 12 => ("AcidCity$Desk", "years", "[I", true)
  | 13 => ("AcidCity$Desk", "more", "[I", true)
  | 14 => ("AcidCity$Desk", "ahead", "[I", true)
  | _ => ("AcidCity$Desk", "builds", "I", false)
def tyX4 : Nat → FieldType := fun k => match k with
  | 0 => .array (.array .int)
  | 1 => .array .int
  | 2 => .array .int
  | 3 => .array .int
  | 4 => .array (.array .int)
  | 5 => .array .int
  | 6 => .array .int
  | 7 => .array .int
  | 8 => .int
  | 9 => .array .int
  | 10 => .array .int
  | 11 => .int
  | 12 => .array .int
  | 13 => .array .int
  | 14 => .array .int
  | _ => .int
theorem nmX4 : ∀ a, a < 16 → ∀ b, b < 16 → a ≠ b → (TX4 a).2.1 ≠ (TX4 b).2.1 := by decide +kernel
theorem tyX4_ok : ∀ k, k < 16 → parseFieldDescriptor (TX4 k).2.2.1 = some (tyX4 k) := by decide +kernel
def RX5 : String := "AcidCity$Gauges"
def TX5 : u_T := fun k => match k with
  | 0 => ("AcidCity$Gauges", "sort", "[I", true)
  | 1 => ("AcidCity$Gauges", "size", "[I", true)
  | _ => ("AcidCity$Gauges", "row", "[[I", true)
def tyX5 : Nat → FieldType := fun k => match k with
  | 0 => .array .int
  | 1 => .array .int
  | _ => .array (.array .int)
theorem nmX5 : ∀ a, a < 3 → ∀ b, b < 3 → a ≠ b → (TX5 a).2.1 ≠ (TX5 b).2.1 := by decide +kernel
theorem tyX5_ok : ∀ k, k < 3 → parseFieldDescriptor (TX5 k).2.2.1 = some (tyX5 k) := by decide +kernel
def RX6 : String := "AcidCity$Order"
def TX6 : u_T := fun k => match k with
  | 0 => ("AcidCity$Order", "best", "[I", true)
  | 1 => ("AcidCity$Order", "row", "[I", true)
  | 2 => ("AcidCity$Order", "span", "I", false)
  | 3 => ("AcidCity$Order", "triesLeft", "I", false)
  | _ => ("AcidCity$Order", "most", "I", false)
def tyX6 : Nat → FieldType := fun k => match k with
  | 0 => .array .int
  | 1 => .array .int
  | 2 => .int
  | 3 => .int
  | _ => .int
theorem nmX6 : ∀ a, a < 5 → ∀ b, b < 5 → a ≠ b → (TX6 a).2.1 ≠ (TX6 b).2.1 := by decide +kernel
theorem tyX6_ok : ∀ k, k < 5 → parseFieldDescriptor (TX6 k).2.2.1 = some (tyX6 k) := by decide +kernel
def RX7 : String := "AcidCity$People"
def TX7 : u_T := fun k => match k with
  | 0 => ("AcidCity$People", "age", "[I", true)
  | 1 => ("AcidCity$People", "craft", "[I", true)
  | 2 => ("AcidCity$People", "home", "[I", true)
  | 3 => ("AcidCity$People", "sick", "[I", true)
  | _ => ("AcidCity$People", "many", "I", false)
def tyX7 : Nat → FieldType := fun k => match k with
  | 0 => .array .int
  | 1 => .array .int
  | 2 => .array .int
  | 3 => .array .int
  | _ => .int
theorem nmX7 : ∀ a, a < 5 → ∀ b, b < 5 → a ≠ b → (TX7 a).2.1 ≠ (TX7 b).2.1 := by decide +kernel
theorem tyX7_ok : ∀ k, k < 5 → parseFieldDescriptor (TX7 k).2.2.1 = some (tyX7 k) := by decide +kernel
def RX8 : String := "AcidCity$Rounds"
def TX8 : u_T := fun k => match k with
  | 0 => ("AcidCity$Rounds", "firstLack", "I", false)
  | 1 => ("AcidCity$Rounds", "sewnThen", "I", false)
  | 2 => ("AcidCity$Rounds", "layers", "[I", true)
  | 3 => ("AcidCity$Rounds", "worn", "[I", true)
  | 4 => ("AcidCity$Rounds", "falls", "[I", true)
  | 5 => ("AcidCity$Rounds", "wearAhead", "[I", true)
  | 6 => ("AcidCity$Rounds", "hours", "I", false)
  | _ => ("AcidCity$Rounds", "least", "I", false)
def tyX8 : Nat → FieldType := fun k => match k with
  | 0 => .int
  | 1 => .int
  | 2 => .array .int
  | 3 => .array .int
  | 4 => .array .int
  | 5 => .array .int
  | 6 => .int
  | _ => .int
theorem nmX8 : ∀ a, a < 8 → ∀ b, b < 8 → a ≠ b → (TX8 a).2.1 ≠ (TX8 b).2.1 := by decide +kernel
theorem tyX8_ok : ∀ k, k < 8 → parseFieldDescriptor (TX8 k).2.2.1 = some (tyX8 k) := by decide +kernel
def RX9 : String := "AcidCity$Tape"
def TX9 : u_T := fun k => match k with
  | 0 => ("AcidCity$Tape", "bytes", "[I", true)
  | 1 => ("AcidCity$Tape", "length", "I", false)
  | 2 => ("AcidCity$Tape", "key", "I", false)
  | 3 => ("AcidCity$Tape", "code", "[I", true)
  | 4 => ("AcidCity$Tape", "codes", "I", false)
  | 5 => ("AcidCity$Tape", "leaves", "I", false)
  | 6 => ("AcidCity$Tape", "pending", "[I", true)
  | 7 => ("AcidCity$Tape", "pendings", "I", false)
  | 8 => ("AcidCity$Tape", "brackets", "I", false)
  | 9 => ("AcidCity$Tape", "nots", "I", false)
  | _ => ("AcidCity$Tape", "partDue", "Z", false)
def tyX9 : Nat → FieldType := fun k => match k with
  | 0 => .array .int
  | 1 => .int
  | 2 => .int
  | 3 => .array .int
  | 4 => .int
  | 5 => .int
  | 6 => .array .int
  | 7 => .int
  | 8 => .int
  | 9 => .int
  | _ => .boolean
theorem nmX9 : ∀ a, a < 11 → ∀ b, b < 11 → a ≠ b → (TX9 a).2.1 ≠ (TX9 b).2.1 := by decide +kernel
theorem tyX9_ok : ∀ k, k < 11 → parseFieldDescriptor (TX9 k).2.2.1 = some (tyX9 k) := by decide +kernel
def RX10 : String := "AcidCity$Works"
def TX10 : u_T := fun k => match k with
  | 0 => ("AcidCity$Works", "kind", "[I", true)
  | 1 => ("AcidCity$Works", "place", "[I", true)
  | 2 => ("AcidCity$Works", "mass", "[I", true)
  | 3 => ("AcidCity$Works", "on", "[I", true)
  | 4 => ("AcidCity$Works", "foul", "[I", true)
  | 5 => ("AcidCity$Works", "fouling", "[I", true)
  | 6 => ("AcidCity$Works", "hidden", "[I", true)
  | 7 => ("AcidCity$Works", "a", "[I", true)
  | 8 => ("AcidCity$Works", "b", "[I", true)
  | 9 => ("AcidCity$Works", "worn", "[I", true)
  | 10 => ("AcidCity$Works", "gone", "[I", true)
  | 11 => ("AcidCity$Works", "level", "[I", true)
  | 12 => ("AcidCity$Works", "heat", "[I", true)
  | _ => ("AcidCity$Works", "many", "I", false)
def tyX10 : Nat → FieldType := fun k => match k with
  | 0 => .array .int
  | 1 => .array .int
  | 2 => .array .int
  | 3 => .array .int
  | 4 => .array .int
  | 5 => .array .int
  | 6 => .array .int
  | 7 => .array .int
  | 8 => .array .int
  | 9 => .array .int
  | 10 => .array .int
  | 11 => .array .int
  | 12 => .array .int
  | _ => .int
theorem nmX10 : ∀ a, a < 14 → ∀ b, b < 14 → a ≠ b → (TX10 a).2.1 ≠ (TX10 b).2.1 := by decide +kernel
theorem tyX10_ok : ∀ k, k < 14 → parseFieldDescriptor (TX10 k).2.2.1 = some (tyX10 k) := by decide +kernel
def RX11 : String := "AcidCity"
def TX11 : u_T := fun k => match k with
  | 0 => ("AcidCity", "now", "LAcidCity$City;", true)
  | 1 => ("AcidCity", "law", "LAcidCity$Charter;", true)
  | 2 => ("AcidCity", "desk", "LAcidCity$Desk;", true)
  | 3 => ("AcidCity", "keptNow", "LAcidCity$City;", true)
  | 4 => ("AcidCity", "keptLaw", "LAcidCity$Charter;", true)
  | 5 => ("AcidCity", "keptDesk", "LAcidCity$Desk;", true)
  | 6 => ("AcidCity", "kept", "Z", false)
  | 7 => ("AcidCity", "foretold", "LAcidCity$City;", true)
  | 8 => ("AcidCity", "tape", "LAcidCity$Tape;", true)
  | 9 => ("AcidCity", "gauges", "LAcidCity$Gauges;", true)
  | 10 => ("AcidCity", "rounds", "LAcidCity$Rounds;", true)
  | 11 => ("AcidCity", "night", "LAcidCity$Dark;", true)
  | 12 => ("AcidCity", "yard", "LAcidCity$Order;", true)
  | 13 => ("AcidCity", "waiting", "[I", true)
  | 14 => ("AcidCity", "waits", "I", false)
  | _ => ("AcidCity", "due", "[I", true)
def tyX11 : Nat → FieldType := fun k => match k with
  | 0 => .object "AcidCity$City"
  | 1 => .object "AcidCity$Charter"
  | 2 => .object "AcidCity$Desk"
  | 3 => .object "AcidCity$City"
  | 4 => .object "AcidCity$Charter"
  | 5 => .object "AcidCity$Desk"
  | 6 => .boolean
  | 7 => .object "AcidCity$City"
  | 8 => .object "AcidCity$Tape"
  | 9 => .object "AcidCity$Gauges"
  | 10 => .object "AcidCity$Rounds"
  | 11 => .object "AcidCity$Dark"
  | 12 => .object "AcidCity$Order"
  | 13 => .array .int
  | 14 => .int
  | _ => .array .int
theorem nmX11 : ∀ a, a < 16 → ∀ b, b < 16 → a ≠ b → (TX11 a).2.1 ≠ (TX11 b).2.1 := by decide +kernel
theorem tyX11_ok : ∀ k, k < 16 → parseFieldDescriptor (TX11 k).2.2.1 = some (tyX11 k) := by decide +kernel
def RX12 : String := "AcidCityModel"
def TX12 : u_T := fun k => match k with
  | 0 => ("AcidCityModel", "s", "[I", true)
  | 1 => ("AcidCityModel", "image", "[I", true)
  | 2 => ("AcidCityModel", "aside", "[I", true)
  | 3 => ("AcidCityModel", "hasImage", "Z", false)
  | 4 => ("AcidCityModel", "gSort", "[I", true)
  | 5 => ("AcidCityModel", "gSize", "[I", true)
  | 6 => ("AcidCityModel", "gNumber", "[I", true)
  | 7 => ("AcidCityModel", "tape", "[I", true)
  | 8 => ("AcidCityModel", "taped", "I", false)
  | 9 => ("AcidCityModel", "begin", "I", false)
  | 10 => ("AcidCityModel", "behind", "I", false)
  | 11 => ("AcidCityModel", "token", "I", false)
  | 12 => ("AcidCityModel", "number", "I", false)
  | 13 => ("AcidCityModel", "letter", "I", false)
  | 14 => ("AcidCityModel", "deep", "I", false)
  | 15 => ("AcidCityModel", "turned", "I", false)
  | 16 => ("AcidCityModel", "laid", "I", false)
  | 17 => ("AcidCityModel", "laidAt", "I", false)
  | 18 => ("AcidCityModel", "said", "I", false)
  | 19 => ("AcidCityModel", "named", "[I", true)
  | 20 => ("AcidCityModel", "pile", "[I", true)
  | 21 => ("AcidCityModel", "shares", "[I", true)
  | 22 => ("AcidCityModel", "shedRow", "[I", true)
  | 23 => ("AcidCityModel", "shedWorth", "[I", true)
  | 24 => ("AcidCityModel", "carried", "[I", true)
  | 25 => ("AcidCityModel", "layers", "[I", true)
  | 26 => ("AcidCityModel", "worn", "[I", true)
  | 27 => ("AcidCityModel", "layersLeft", "I", false)
  | 28 => ("AcidCityModel", "wornLeft", "I", false)
  | 29 => ("AcidCityModel", "sewn", "I", false)
  | 30 => ("AcidCityModel", "harms", "[I", true)
  | 31 => ("AcidCityModel", "built", "[I", true)
  | 32 => ("AcidCityModel", "bestBuilt", "[I", true)
  | 33 => ("AcidCityModel", "bestSum", "I", false)
  | 34 => ("AcidCityModel", "triesLeft", "I", false)
  | 35 => ("AcidCityModel", "isSpent", "Z", false)
  | 36 => ("AcidCityModel", "waits", "[I", true)
  | 37 => ("AcidCityModel", "waiting", "I", false)
  | 38 => ("AcidCityModel", "due", "[I", true)
  | _ => ("AcidCityModel", "dues", "I", false)
def tyX12 : Nat → FieldType := fun k => match k with
  | 0 => .array .int
  | 1 => .array .int
  | 2 => .array .int
  | 3 => .boolean
  | 4 => .array .int
  | 5 => .array .int
  | 6 => .array .int
  | 7 => .array .int
  | 8 => .int
  | 9 => .int
  | 10 => .int
  | 11 => .int
  | 12 => .int
  | 13 => .int
  | 14 => .int
  | 15 => .int
  | 16 => .int
  | 17 => .int
  | 18 => .int
  | 19 => .array .int
  | 20 => .array .int
  | 21 => .array .int
  | 22 => .array .int
  | 23 => .array .int
  | 24 => .array .int
  | 25 => .array .int
  | 26 => .array .int
  | 27 => .int
  | 28 => .int
  | 29 => .int
  | 30 => .array .int
  | 31 => .array .int
  | 32 => .array .int
  | 33 => .int
  | 34 => .int
  | 35 => .boolean
  | 36 => .array .int
  | 37 => .int
  | 38 => .array .int
  | _ => .int
theorem nmX12 : ∀ a, a < 40 → ∀ b, b < 40 → a ≠ b → (TX12 a).2.1 ≠ (TX12 b).2.1 := by decide +kernel
theorem tyX12_ok : ∀ k, k < 40 → parseFieldDescriptor (TX12 k).2.2.1 = some (tyX12 k) := by decide +kernel
abbrev vwCl : List vw_C := [(RX0, TX0, 13), (RX1, TX1, 14), (RX2, TX2, 10), (RX3, TX3, 2), (RX4, TX4, 16), (RX5, TX5, 3), (RX6, TX6, 5), (RX7, TX7, 5), (RX8, TX8, 8), (RX9, TX9, 11), (RX10, TX10, 14), (RX11, TX11, 16), (RX12, TX12, 40)]
def xTc : List (List Cond) := [k2_sels lw_privs_1, k2_sels lw_privs_2, k2_sels lw_privs_3, k2_sels lw_privs_4, k2_sels lw_privs_5, k2_sels lw_privs_6, k2_sels lw_privs_7, k2_sels lw_privs_8, k2_sels lw_privs_9, tables_1_1, tables_1_2, tables_1_3, tables_1_4, tables_1_5, tables_1_6, tables_1_7, tables_1_8, tables_1_9, tables_1_10, tables_1_11]
def xTys : List FieldType := [.int, .long, .array .int]

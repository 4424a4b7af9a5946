set_option linter.all false
-- ===== PART A: goes FIRST, ahead of the names: the tables' words, and 'selects' of the private methods out of them =====
/-- a private method of a class that the tables say can be made, by its rows of tables_1 -/
def lw_okq (q : MethodName × Nat) : Prop := (q.1.cls ≠ "java/lang/invoke/MethodHandle" ∧ q.1.cls ≠ "java/lang/invoke/VarHandle") ∧ Cond.instantiable q.1.cls q.2 ∈ tables_1 ∧ Cond.privateMethod q.1 ∈ tables_1 ∧ Cond.instanceMethod q.1 ∈ tables_1
def lwT : List (List Cond) := [tables_1_1, tables_1_2, tables_1_3, tables_1_4, tables_1_5, tables_1_6, tables_1_7, tables_1_8, tables_1_9, tables_1_10, tables_1_11]
theorem lwT_in {r : List Cond} (hr : r ∈ lwT) {w : Cond} (hw : w ∈ r) : w ∈ tables_1 := by
  have e : lwT.flatten = tables_1 := by simp only [lwT, tables_1, List.flatten_cons, List.flatten_nil, List.append_nil]
  rw [← e]
  exact List.mem_flatten.mpr ⟨r, hr, hw⟩
def lwt (i : Nat) (w : Cond) : Bool := decide ((lwT[i / 1024]?).bind (fun r => r[i % 1024]?) = some w)
theorem lwt_of {i : Nat} {w : Cond} (h : lwt i w = true) : w ∈ tables_1 := by
  obtain ⟨r, h1, h2⟩ := Option.bind_eq_some_iff.mp (of_decide_eq_true h)
  exact lwT_in (List.mem_of_getElem? h1) (List.mem_of_getElem? h2)
def lwz (p : (MethodName × Nat) × (Nat × (Nat × Nat))) : Bool := decide (p.1.1.cls ≠ "java/lang/invoke/MethodHandle" ∧ p.1.1.cls ≠ "java/lang/invoke/VarHandle") && (lwt p.2.1 (.instantiable p.1.1.cls p.1.2) && (lwt p.2.2.1 (.privateMethod p.1.1) && lwt p.2.2.2 (.instanceMethod p.1.1)))
theorem lwz_of {p : (MethodName × Nat) × (Nat × (Nat × Nat))} (h : lwz p = true) : lw_okq p.1 := by
  unfold lwz at h
  obtain ⟨h1, h⟩ := Bool.and_eq_true_iff.mp h
  obtain ⟨h2, h⟩ := Bool.and_eq_true_iff.mp h
  obtain ⟨h3, h4⟩ := Bool.and_eq_true_iff.mp h
  exact ⟨of_decide_eq_true h1, lwt_of h2, lwt_of h3, lwt_of h4⟩
theorem lwz_all {L : List ((MethodName × Nat) × (Nat × (Nat × Nat)))} (h : L.all lwz = true) : ∀ q ∈ L.map Prod.fst, lw_okq q := by
  intro q hq
  obtain ⟨p, hp, rfl⟩ := List.mem_map.mp hq
  exact lwz_of (List.all_eq_true.mp h p hp)
def lw_privs_1 : List (MethodName × Nat) := [(⟨"AcidCity$Charter", "putOne", "(LAcidCity$City;I)V"⟩, 14), (⟨"AcidCity$Charter", "put", "(CI)V"⟩, 14), (⟨"AcidCity$Charter", "allows", "(II)Z"⟩, 14), (⟨"AcidCity$Charter", "isInForce", "(II)Z"⟩, 14), (⟨"AcidCity$Charter", "worth", "(I)I"⟩, 14), (⟨"AcidCity$Charter", "nameAt", "(I)I"⟩, 14), (⟨"AcidCity", "refusedProbe", "(I)I"⟩, 16), (⟨"AcidCity$Cells", "hear", "([I)V"⟩, 13), (⟨"AcidCity$City", "runWork", "(I)V"⟩, 10), (⟨"AcidCity$City", "runSkin", "(I)V"⟩, 10), (⟨"AcidCity$City", "loseGas", "(II)V"⟩, 10), (⟨"AcidCity$City", "runGarden", "(I)V"⟩, 10), (⟨"AcidCity$City", "runStill", "(I)V"⟩, 10), (⟨"AcidCity$City", "runRotor", "(I)V"⟩, 10), (⟨"AcidCity$City", "runProbe", "(I)V"⟩, 10), (⟨"AcidCity$City", "breathe", "(I)V"⟩, 10)]
theorem lw_g1 : (List.all [((⟨"AcidCity$Charter", "putOne", "(LAcidCity$City;I)V"⟩, 14), (1039, (2210, 2211))), ((⟨"AcidCity$Charter", "put", "(CI)V"⟩, 14), (1039, (2214, 2215))), ((⟨"AcidCity$Charter", "allows", "(II)Z"⟩, 14), (1039, (2226, 2227))), ((⟨"AcidCity$Charter", "isInForce", "(II)Z"⟩, 14), (1039, (2234, 2235))), ((⟨"AcidCity$Charter", "worth", "(I)I"⟩, 14), (1039, (2238, 2239))), ((⟨"AcidCity$Charter", "nameAt", "(I)I"⟩, 14), (1039, (2242, 2243))), ((⟨"AcidCity", "refusedProbe", "(I)I"⟩, 16), (24, (3100, 3101))), ((⟨"AcidCity$Cells", "hear", "([I)V"⟩, 13), (38, (3203, 3204))), ((⟨"AcidCity$City", "runWork", "(I)V"⟩, 10), (32, (3209, 3210))), ((⟨"AcidCity$City", "runSkin", "(I)V"⟩, 10), (32, (3213, 3214))), ((⟨"AcidCity$City", "loseGas", "(II)V"⟩, 10), (32, (3227, 3228))), ((⟨"AcidCity$City", "runGarden", "(I)V"⟩, 10), (32, (3231, 3232))), ((⟨"AcidCity$City", "runStill", "(I)V"⟩, 10), (32, (3246, 3247))), ((⟨"AcidCity$City", "runRotor", "(I)V"⟩, 10), (32, (3250, 3251))), ((⟨"AcidCity$City", "runProbe", "(I)V"⟩, 10), (32, (3254, 3255))), ((⟨"AcidCity$City", "breathe", "(I)V"⟩, 10), (32, (3273, 3274)))] lwz) = true := by decide +kernel
theorem lw_r1 : ∀ q ∈ lw_privs_1, lw_okq q := lwz_all lw_g1
def lw_privs_2 : List (MethodName × Nat) := [(⟨"AcidCity$City", "rise", "()V"⟩, 10), (⟨"AcidCity$City", "sendReports", "()V"⟩, 10), (⟨"AcidCity$Tape", "addFour", "(I)V"⟩, 11), (⟨"AcidCity$Tape", "behindBlanks", "(I)I"⟩, 11), (⟨"AcidCity$Tape", "behindWord", "(I)I"⟩, 11), (⟨"AcidCity$Tape", "keyBetween", "(II)I"⟩, 11), (⟨"AcidCity$Tape", "isWord", "(Ljava/lang/String;II)Z"⟩, 11), (⟨"AcidCity$Tape", "takePart", "(II)Z"⟩, 11), (⟨"AcidCity$Tape", "takeLeaf", "(I)Z"⟩, 11), (⟨"AcidCity$Tape", "emit", "(I)Z"⟩, 11), (⟨"AcidCity$Tape", "numberBetween", "(II)I"⟩, 11), (⟨"AcidCity$Tape", "push", "(I)Z"⟩, 11), (⟨"AcidCity$Tape", "takeSign", "(I)Z"⟩, 11), (⟨"AcidCity$Tape", "close", "()Z"⟩, 11), (⟨"AcidCity$Tape", "settle", "(I)V"⟩, 11), (⟨"AcidCity$Charter", "voters", "(LAcidCity$City;)I"⟩, 14)]
theorem lw_g2 : (List.all [((⟨"AcidCity$City", "rise", "()V"⟩, 10), (32, (3287, 3288))), ((⟨"AcidCity$City", "sendReports", "()V"⟩, 10), (32, (3297, 3298))), ((⟨"AcidCity$Tape", "addFour", "(I)V"⟩, 11), (1172, (4137, 4138))), ((⟨"AcidCity$Tape", "behindBlanks", "(I)I"⟩, 11), (1172, (4153, 4154))), ((⟨"AcidCity$Tape", "behindWord", "(I)I"⟩, 11), (1172, (4157, 4158))), ((⟨"AcidCity$Tape", "keyBetween", "(II)I"⟩, 11), (1172, (4167, 4168))), ((⟨"AcidCity$Tape", "isWord", "(Ljava/lang/String;II)Z"⟩, 11), (1172, (4180, 4181))), ((⟨"AcidCity$Tape", "takePart", "(II)Z"⟩, 11), (1172, (4233, 4234))), ((⟨"AcidCity$Tape", "takeLeaf", "(I)Z"⟩, 11), (1172, (4300, 4301))), ((⟨"AcidCity$Tape", "emit", "(I)Z"⟩, 11), (1172, (4304, 4305))), ((⟨"AcidCity$Tape", "numberBetween", "(II)I"⟩, 11), (1172, (4308, 4309))), ((⟨"AcidCity$Tape", "push", "(I)Z"⟩, 11), (1172, (4312, 4313))), ((⟨"AcidCity$Tape", "takeSign", "(I)Z"⟩, 11), (1172, (4316, 4317))), ((⟨"AcidCity$Tape", "close", "()Z"⟩, 11), (1172, (4320, 4321))), ((⟨"AcidCity$Tape", "settle", "(I)V"⟩, 11), (1172, (4324, 4325))), ((⟨"AcidCity$Charter", "voters", "(LAcidCity$City;)I"⟩, 14), (1039, (5165, 5166)))] lwz) = true := by decide +kernel
theorem lw_r2 : ∀ q ∈ lw_privs_2, lw_okq q := lwz_all lw_g2
def lw_privs_3 : List (MethodName × Nat) := [(⟨"AcidCity$Charter", "partOf", "(LAcidCity$City;I)I"⟩, 14), (⟨"AcidCity$Charter", "shedWorth", "(LAcidCity$City;I)I"⟩, 14), (⟨"AcidCity$Charter", "putWork", "(LAcidCity$City;I)V"⟩, 14), (⟨"AcidCity$Gauges", "hasPlace", "(II)Z"⟩, 3), (⟨"AcidCity$Gauges", "middleAt", "(II)I"⟩, 3), (⟨"AcidCity$Gauges", "hasPlaces", "(III)Z"⟩, 3), (⟨"AcidCity$Desk", "agrees", "(I)Z"⟩, 16), (⟨"AcidCity$Desk", "mostAlike", "(II)I"⟩, 16), (⟨"AcidCity$Rounds", "begin", "(LAcidCity$City;LAcidCity$Desk;)V"⟩, 8), (⟨"AcidCity$Rounds", "foretellAll", "(LAcidCity$Works;I)V"⟩, 8), (⟨"AcidCity$Rounds", "fallOf", "(II)I"⟩, 8), (⟨"AcidCity$Rounds", "sewNext", "(LAcidCity$Works;I)I"⟩, 8), (⟨"AcidCity$Rounds", "wearAll", "(LAcidCity$Works;I)V"⟩, 8), (⟨"AcidCity$Dark", "choose", "(LAcidCity$Desk;II)V"⟩, 2), (⟨"AcidCity$Desk", "sumOf", "([II)I"⟩, 16), (⟨"AcidCity$Order", "goOn", "(LAcidCity$Desk;IIII)V"⟩, 5)]
theorem lw_g3 : (List.all [((⟨"AcidCity$Charter", "partOf", "(LAcidCity$City;I)I"⟩, 14), (1039, (5194, 5195))), ((⟨"AcidCity$Charter", "shedWorth", "(LAcidCity$City;I)I"⟩, 14), (1039, (5208, 5209))), ((⟨"AcidCity$Charter", "putWork", "(LAcidCity$City;I)V"⟩, 14), (1039, (5213, 5214))), ((⟨"AcidCity$Gauges", "hasPlace", "(II)Z"⟩, 3), (1217, (5255, 5256))), ((⟨"AcidCity$Gauges", "middleAt", "(II)I"⟩, 3), (1217, (5274, 5275))), ((⟨"AcidCity$Gauges", "hasPlaces", "(III)Z"⟩, 3), (1217, (5293, 5294))), ((⟨"AcidCity$Desk", "agrees", "(I)Z"⟩, 16), (1097, (5310, 5311))), ((⟨"AcidCity$Desk", "mostAlike", "(II)I"⟩, 16), (1097, (5331, 5332))), ((⟨"AcidCity$Rounds", "begin", "(LAcidCity$City;LAcidCity$Desk;)V"⟩, 8), (1234, (5349, 5350))), ((⟨"AcidCity$Rounds", "foretellAll", "(LAcidCity$Works;I)V"⟩, 8), (1234, (5358, 5359))), ((⟨"AcidCity$Rounds", "fallOf", "(II)I"⟩, 8), (1234, (6147, 6148))), ((⟨"AcidCity$Rounds", "sewNext", "(LAcidCity$Works;I)I"⟩, 8), (1234, (6151, 6152))), ((⟨"AcidCity$Rounds", "wearAll", "(LAcidCity$Works;I)V"⟩, 8), (1234, (6155, 6156))), ((⟨"AcidCity$Dark", "choose", "(LAcidCity$Desk;II)V"⟩, 2), (2051, (6179, 6180))), ((⟨"AcidCity$Desk", "sumOf", "([II)I"⟩, 16), (1097, (6235, 6236))), ((⟨"AcidCity$Order", "goOn", "(LAcidCity$Desk;IIII)V"⟩, 5), (2065, (6256, 6257)))] lwz) = true := by decide +kernel
theorem lw_r3 : ∀ q ∈ lw_privs_3, lw_okq q := lwz_all lw_g3
def lw_privs_4 : List (MethodName × Nat) := [(⟨"AcidCity$Order", "take", "(I)V"⟩, 5), (⟨"AcidCity", "checkLoads", "(III)I"⟩, 16), (⟨"AcidCity", "firstWrong", "(II)I"⟩, 16), (⟨"AcidCity", "checkOrder", "(II)I"⟩, 16), (⟨"AcidCity", "checkDay", "(II)I"⟩, 16), (⟨"AcidCityModel", "cellAt", "(I)I"⟩, 40), (⟨"AcidCityModel", "isCell", "(I)Z"⟩, 40), (⟨"AcidCityModel", "put", "(II)I"⟩, 40), (⟨"AcidCityModel", "workAt", "(I)I"⟩, 40), (⟨"AcidCityModel", "isGone", "(I)Z"⟩, 40), (⟨"AcidCityModel", "peopleIn", "(I)I"⟩, 40), (⟨"AcidCityModel", "personAt", "(I)I"⟩, 40), (⟨"AcidCityModel", "isDead", "(I)Z"⟩, 40), (⟨"AcidCityModel", "isLock", "(I)Z"⟩, 40), (⟨"AcidCityModel", "isPerson", "(I)Z"⟩, 40), (⟨"AcidCityModel", "mayOpen", "(II)Z"⟩, 40)]
theorem lw_g4 : (List.all [((⟨"AcidCity$Order", "take", "(I)V"⟩, 5), (2065, (6260, 6261))), ((⟨"AcidCity", "checkLoads", "(III)I"⟩, 16), (24, (6279, 6280))), ((⟨"AcidCity", "firstWrong", "(II)I"⟩, 16), (24, (6283, 6284))), ((⟨"AcidCity", "checkOrder", "(II)I"⟩, 16), (24, (6287, 6288))), ((⟨"AcidCity", "checkDay", "(II)I"⟩, 16), (24, (6291, 6292))), ((⟨"AcidCityModel", "cellAt", "(I)I"⟩, 40), (6355, (7276, 7277))), ((⟨"AcidCityModel", "isCell", "(I)Z"⟩, 40), (6355, (7284, 7285))), ((⟨"AcidCityModel", "put", "(II)I"⟩, 40), (6355, (7291, 7292))), ((⟨"AcidCityModel", "workAt", "(I)I"⟩, 40), (6355, (7300, 7301))), ((⟨"AcidCityModel", "isGone", "(I)Z"⟩, 40), (6355, (7304, 7305))), ((⟨"AcidCityModel", "peopleIn", "(I)I"⟩, 40), (6355, (7308, 7309))), ((⟨"AcidCityModel", "personAt", "(I)I"⟩, 40), (6355, (7312, 7313))), ((⟨"AcidCityModel", "isDead", "(I)Z"⟩, 40), (6355, (7316, 7317))), ((⟨"AcidCityModel", "isLock", "(I)Z"⟩, 40), (6355, (7329, 7330))), ((⟨"AcidCityModel", "isPerson", "(I)Z"⟩, 40), (6355, (7333, 7334))), ((⟨"AcidCityModel", "mayOpen", "(II)Z"⟩, 40), (6355, (7337, 7338)))] lwz) = true := by decide +kernel
theorem lw_r4 : ∀ q ∈ lw_privs_4, lw_okq q := lwz_all lw_g4
def lw_privs_5 : List (MethodName × Nat) := [(⟨"AcidCityModel", "counts", "(I)I"⟩, 40), (⟨"AcidCityModel", "textAt", "(I)I"⟩, 40), (⟨"AcidCityModel", "isInForce", "(I)Z"⟩, 40), (⟨"AcidCityModel", "hour", "()I"⟩, 40), (⟨"AcidCityModel", "nameOne", "(I)V"⟩, 40), (⟨"AcidCityModel", "worked", "(I)I"⟩, 40), (⟨"AcidCityModel", "level", "()I"⟩, 40), (⟨"AcidCityModel", "fits", "(III)Z"⟩, 40), (⟨"AcidCityModel", "isWork", "(I)Z"⟩, 40), (⟨"AcidCityModel", "kindOf", "(I)I"⟩, 40), (⟨"AcidCityModel", "stops", "(I)I"⟩, 40), (⟨"AcidCityModel", "lift", "()J"⟩, 40), (⟨"AcidCityModel", "table", "(I)I"⟩, 40), (⟨"AcidCityModel", "weight", "()J"⟩, 40), (⟨"AcidCityModel", "isDay", "(I)Z"⟩, 40), (⟨"AcidCityModel", "minute", "()V"⟩, 40)]
theorem lw_g5 : (List.all [((⟨"AcidCityModel", "counts", "(I)I"⟩, 40), (6355, (7341, 7342))), ((⟨"AcidCityModel", "textAt", "(I)I"⟩, 40), (6355, (7345, 7346))), ((⟨"AcidCityModel", "isInForce", "(I)Z"⟩, 40), (6355, (7349, 7350))), ((⟨"AcidCityModel", "hour", "()I"⟩, 40), (6355, (7353, 7354))), ((⟨"AcidCityModel", "nameOne", "(I)V"⟩, 40), (6355, (7357, 7358))), ((⟨"AcidCityModel", "worked", "(I)I"⟩, 40), (6355, (7361, 7362))), ((⟨"AcidCityModel", "level", "()I"⟩, 40), (6355, (7365, 7366))), ((⟨"AcidCityModel", "fits", "(III)Z"⟩, 40), (6355, (7388, 7389))), ((⟨"AcidCityModel", "isWork", "(I)Z"⟩, 40), (6355, (7393, 7394))), ((⟨"AcidCityModel", "kindOf", "(I)I"⟩, 40), (6355, (7397, 7398))), ((⟨"AcidCityModel", "stops", "(I)I"⟩, 40), (6355, (8215, 8216))), ((⟨"AcidCityModel", "lift", "()J"⟩, 40), (6355, (8238, 8239))), ((⟨"AcidCityModel", "table", "(I)I"⟩, 40), (6355, (8242, 8243))), ((⟨"AcidCityModel", "weight", "()J"⟩, 40), (6355, (8247, 8248))), ((⟨"AcidCityModel", "isDay", "(I)Z"⟩, 40), (6355, (8251, 8252))), ((⟨"AcidCityModel", "minute", "()V"⟩, 40), (6355, (8262, 8263)))] lwz) = true := by decide +kernel
theorem lw_r5 : ∀ q ∈ lw_privs_5, lw_okq q := lwz_all lw_g5
def lw_privs_6 : List (MethodName × Nat) := [(⟨"AcidCityModel", "come", "()V"⟩, 40), (⟨"AcidCityModel", "knows", "(III)V"⟩, 40), (⟨"AcidCityModel", "works", "(I)V"⟩, 40), (⟨"AcidCityModel", "garden", "(I)V"⟩, 40), (⟨"AcidCityModel", "part", "(II)I"⟩, 40), (⟨"AcidCityModel", "comes", "(III)V"⟩, 40), (⟨"AcidCityModel", "still", "(I)V"⟩, 40), (⟨"AcidCityModel", "isCovered", "(I)Z"⟩, 40), (⟨"AcidCityModel", "wears", "(I)V"⟩, 40), (⟨"AcidCityModel", "falls", "(I)V"⟩, 40), (⟨"AcidCityModel", "flows", "(I)V"⟩, 40), (⟨"AcidCityModel", "leaks", "(I)V"⟩, 40), (⟨"AcidCityModel", "breathes", "(I)V"⟩, 40), (⟨"AcidCityModel", "need", "(I)I"⟩, 40), (⟨"AcidCityModel", "floats", "()V"⟩, 40), (⟨"AcidCityModel", "fouls", "(I)V"⟩, 40)]
theorem lw_g6 : (List.all [((⟨"AcidCityModel", "come", "()V"⟩, 40), (6355, (8266, 8267))), ((⟨"AcidCityModel", "knows", "(III)V"⟩, 40), (6355, (8270, 8271))), ((⟨"AcidCityModel", "works", "(I)V"⟩, 40), (6355, (8274, 8275))), ((⟨"AcidCityModel", "garden", "(I)V"⟩, 40), (6355, (8278, 8279))), ((⟨"AcidCityModel", "part", "(II)I"⟩, 40), (6355, (8282, 8283))), ((⟨"AcidCityModel", "comes", "(III)V"⟩, 40), (6355, (8289, 8290))), ((⟨"AcidCityModel", "still", "(I)V"⟩, 40), (6355, (8293, 8294))), ((⟨"AcidCityModel", "isCovered", "(I)Z"⟩, 40), (6355, (8297, 8298))), ((⟨"AcidCityModel", "wears", "(I)V"⟩, 40), (6355, (8301, 8302))), ((⟨"AcidCityModel", "falls", "(I)V"⟩, 40), (6355, (8305, 8306))), ((⟨"AcidCityModel", "flows", "(I)V"⟩, 40), (6355, (8309, 8310))), ((⟨"AcidCityModel", "leaks", "(I)V"⟩, 40), (6355, (8313, 8314))), ((⟨"AcidCityModel", "breathes", "(I)V"⟩, 40), (6355, (8318, 8319))), ((⟨"AcidCityModel", "need", "(I)I"⟩, 40), (6355, (8322, 8323))), ((⟨"AcidCityModel", "floats", "()V"⟩, 40), (6355, (8326, 8327))), ((⟨"AcidCityModel", "fouls", "(I)V"⟩, 40), (6355, (8331, 8332)))] lwz) = true := by decide +kernel
theorem lw_r6 : ∀ q ∈ lw_privs_6, lw_okq q := lwz_all lw_g6
def lw_privs_7 : List (MethodName × Nat) := [(⟨"AcidCityModel", "sends", "()V"⟩, 40), (⟨"AcidCityModel", "hasWatch", "(I)Z"⟩, 40), (⟨"AcidCityModel", "mayBirth", "()Z"⟩, 40), (⟨"AcidCityModel", "parse", "()I"⟩, 40), (⟨"AcidCityModel", "next", "()V"⟩, 40), (⟨"AcidCityModel", "isLetter", "(I)Z"⟩, 40), (⟨"AcidCityModel", "isDigit", "(I)Z"⟩, 40), (⟨"AcidCityModel", "key", "()I"⟩, 40), (⟨"AcidCityModel", "isWordAt", "(IIIII)Z"⟩, 40), (⟨"AcidCityModel", "either", "(I)Z"⟩, 40), (⟨"AcidCityModel", "both", "(I)Z"⟩, 40), (⟨"AcidCityModel", "test", "(I)Z"⟩, 40), (⟨"AcidCityModel", "sum", "(I)Z"⟩, 40), (⟨"AcidCityModel", "term", "(I)Z"⟩, 40), (⟨"AcidCityModel", "part0", "(I)Z"⟩, 40), (⟨"AcidCityModel", "step", "(II)V"⟩, 40)]
theorem lw_g7 : (List.all [((⟨"AcidCityModel", "sends", "()V"⟩, 40), (6355, (8335, 8336))), ((⟨"AcidCityModel", "hasWatch", "(I)Z"⟩, 40), (6355, (8339, 8340))), ((⟨"AcidCityModel", "mayBirth", "()Z"⟩, 40), (6355, (8361, 8362))), ((⟨"AcidCityModel", "parse", "()I"⟩, 40), (6355, (8378, 8379))), ((⟨"AcidCityModel", "next", "()V"⟩, 40), (6355, (8382, 8383))), ((⟨"AcidCityModel", "isLetter", "(I)Z"⟩, 40), (6355, (8386, 8387))), ((⟨"AcidCityModel", "isDigit", "(I)Z"⟩, 40), (6355, (8392, 8393))), ((⟨"AcidCityModel", "key", "()I"⟩, 40), (6355, (8398, 8399))), ((⟨"AcidCityModel", "isWordAt", "(IIIII)Z"⟩, 40), (6355, (8402, 8403))), ((⟨"AcidCityModel", "either", "(I)Z"⟩, 40), (6355, (8406, 8407))), ((⟨"AcidCityModel", "both", "(I)Z"⟩, 40), (6355, (8410, 8411))), ((⟨"AcidCityModel", "test", "(I)Z"⟩, 40), (6355, (8414, 8415))), ((⟨"AcidCityModel", "sum", "(I)Z"⟩, 40), (6355, (8418, 8419))), ((⟨"AcidCityModel", "term", "(I)Z"⟩, 40), (6355, (8422, 8423))), ((⟨"AcidCityModel", "part0", "(I)Z"⟩, 40), (6355, (8426, 8427))), ((⟨"AcidCityModel", "step", "(II)V"⟩, 40), (6355, (8430, 8431)))] lwz) = true := by decide +kernel
theorem lw_r7 : ∀ q ∈ lw_privs_7, lw_okq q := lwz_all lw_g7
def lw_privs_8 : List (MethodName × Nat) := [(⟨"AcidCityModel", "isSign", "(I)Z"⟩, 40), (⟨"AcidCityModel", "isText", "(I)Z"⟩, 40), (⟨"AcidCityModel", "mayVote", "(I)Z"⟩, 40), (⟨"AcidCityModel", "findShed", "()I"⟩, 40), (⟨"AcidCityModel", "worthOf", "(II)I"⟩, 40), (⟨"AcidCityModel", "readOf", "(II)I"⟩, 40), (⟨"AcidCityModel", "isNumber", "(II)Z"⟩, 40), (⟨"AcidCityModel", "left", "()I"⟩, 40), (⟨"AcidCityModel", "alike", "(II)I"⟩, 40), (⟨"AcidCityModel", "rounds", "(IIII)I"⟩, 40), (⟨"AcidCityModel", "fitters", "()I"⟩, 40), (⟨"AcidCityModel", "nextSkin", "(III)I"⟩, 40), (⟨"AcidCityModel", "isSkin", "(I)Z"⟩, 40), (⟨"AcidCityModel", "fallsIn", "(IIII)I"⟩, 40), (⟨"AcidCityModel", "weathers", "(I)V"⟩, 40), (⟨"AcidCityModel", "findLoads", "(II)I"⟩, 40)]
theorem lw_g8 : (List.all [((⟨"AcidCityModel", "isSign", "(I)Z"⟩, 40), (6355, (9221, 9222))), ((⟨"AcidCityModel", "isText", "(I)Z"⟩, 40), (6355, (9229, 9230))), ((⟨"AcidCityModel", "mayVote", "(I)Z"⟩, 40), (6355, (9241, 9242))), ((⟨"AcidCityModel", "findShed", "()I"⟩, 40), (6355, (9265, 9266))), ((⟨"AcidCityModel", "worthOf", "(II)I"⟩, 40), (6355, (9269, 9270))), ((⟨"AcidCityModel", "readOf", "(II)I"⟩, 40), (6355, (9299, 9300))), ((⟨"AcidCityModel", "isNumber", "(II)Z"⟩, 40), (6355, (9303, 9304))), ((⟨"AcidCityModel", "left", "()I"⟩, 40), (6355, (9332, 9333))), ((⟨"AcidCityModel", "alike", "(II)I"⟩, 40), (6355, (9343, 9344))), ((⟨"AcidCityModel", "rounds", "(IIII)I"⟩, 40), (6355, (9356, 9357))), ((⟨"AcidCityModel", "fitters", "()I"⟩, 40), (6355, (9360, 9361))), ((⟨"AcidCityModel", "nextSkin", "(III)I"⟩, 40), (6355, (9364, 9365))), ((⟨"AcidCityModel", "isSkin", "(I)Z"⟩, 40), (6355, (9368, 9369))), ((⟨"AcidCityModel", "fallsIn", "(IIII)I"⟩, 40), (6355, (9372, 9373))), ((⟨"AcidCityModel", "weathers", "(I)V"⟩, 40), (6355, (9376, 9377))), ((⟨"AcidCityModel", "findLoads", "(II)I"⟩, 40), (6355, (9402, 9403)))] lwz) = true := by decide +kernel
theorem lw_r8 : ∀ q ∈ lw_privs_8, lw_okq q := lwz_all lw_g8
def lw_privs_9 : List (MethodName × Nat) := [(⟨"AcidCityModel", "harmBy", "(III)I"⟩, 40), (⟨"AcidCityModel", "loadAt", "(II)I"⟩, 40), (⟨"AcidCityModel", "findOrder", "(II)I"⟩, 40), (⟨"AcidCityModel", "seek", "(IIIII)V"⟩, 40), (⟨"AcidCityModel", "rowsOfLoads", "(II)I"⟩, 40), (⟨"AcidCityModel", "dueIs", "(II)V"⟩, 40), (⟨"AcidCityModel", "rowsOfOrder", "(I)I"⟩, 40), (⟨"AcidCityModel", "rowsOfDay", "(I)I"⟩, 40), (⟨"AcidCityModel", "oxygen", "()I"⟩, 40)]
theorem lw_g9 : (List.all [((⟨"AcidCityModel", "harmBy", "(III)I"⟩, 40), (6355, (9407, 9408))), ((⟨"AcidCityModel", "loadAt", "(II)I"⟩, 40), (6355, (9415, 9416))), ((⟨"AcidCityModel", "findOrder", "(II)I"⟩, 40), (6355, (9452, 9453))), ((⟨"AcidCityModel", "seek", "(IIIII)V"⟩, 40), (6355, (10240, 10241))), ((⟨"AcidCityModel", "rowsOfLoads", "(II)I"⟩, 40), (6355, (10257, 10258))), ((⟨"AcidCityModel", "dueIs", "(II)V"⟩, 40), (6355, (10261, 10262))), ((⟨"AcidCityModel", "rowsOfOrder", "(I)I"⟩, 40), (6355, (10265, 10266))), ((⟨"AcidCityModel", "rowsOfDay", "(I)I"⟩, 40), (6355, (10269, 10270))), ((⟨"AcidCityModel", "oxygen", "()I"⟩, 40), (6355, (10273, 10274)))] lwz) = true := by decide +kernel
theorem lw_r9 : ∀ q ∈ lw_privs_9, lw_okq q := lwz_all lw_g9
def lw_privs : List (MethodName × Nat) := lw_privs_1 ++ (lw_privs_2 ++ (lw_privs_3 ++ (lw_privs_4 ++ (lw_privs_5 ++ (lw_privs_6 ++ (lw_privs_7 ++ (lw_privs_8 ++ (lw_privs_9))))))))
def lw_tbl : List Cond := k2_sels lw_privs ++ tables_1
theorem lw_privs_ok : ∀ q ∈ lw_privs, lw_okq q := by
  show ∀ q ∈ lw_privs_1 ++ (lw_privs_2 ++ (lw_privs_3 ++ (lw_privs_4 ++ (lw_privs_5 ++ (lw_privs_6 ++ (lw_privs_7 ++ (lw_privs_8 ++ (lw_privs_9)))))))), lw_okq q
  exact List.forall_mem_append.mpr ⟨lw_r1, List.forall_mem_append.mpr ⟨lw_r2, List.forall_mem_append.mpr ⟨lw_r3, List.forall_mem_append.mpr ⟨lw_r4, List.forall_mem_append.mpr ⟨lw_r5, List.forall_mem_append.mpr ⟨lw_r6, List.forall_mem_append.mpr ⟨lw_r7, List.forall_mem_append.mpr ⟨lw_r8, lw_r9⟩⟩⟩⟩⟩⟩⟩⟩

/-! names of the classes, out of NAMES.whole -/
def RX0 : String := "AcidCity$Cells"
def TX0 : u_T := fun k => match k with
  | 0 => ("AcidCity$Cells", "volume", "[I", true)
  | 1 => ("AcidCity$Cells", "hole", "[I", true)
  | 2 => ("AcidCity$Cells", "air", "[[I", true)
  | 3 => ("AcidCity$Cells", "out", "[[I", true)
  | 4 => ("AcidCity$Cells", "heard", "[[I", true)
  | 5 => ("AcidCity$Cells", "many", "I", false)
  | 6 => ("AcidCity$Cells", "one", "[I", true)
  | 7 => ("AcidCity$Cells", "other", "[I", true)
  | 8 => ("AcidCity$Cells", "width", "[I", true)
  | 9 => ("AcidCity$Cells", "open", "[I", true)
  | 10 => ("AcidCity$Cells", "locks", "I", false)
  | 11 => ("AcidCity$Cells", "report", "[[I", true)
  | _ => ("AcidCity$Cells", "reports", "I", false)
def tyX0 : Nat → FieldType := fun k => match k with
  | 0 => .array .int
  | 1 => .array .int
  | 2 => .array (.array .int)
  | 3 => .array (.array .int)
  | 4 => .array (.array .int)
  | 5 => .int
  | 6 => .array .int
  | 7 => .array .int
  | 8 => .array .int
  | 9 => .array .int
  | 10 => .int
  | 11 => .array (.array .int)
  | _ => .int
theorem nmX0 : ∀ a, a < 13 → ∀ b, b < 13 → a ≠ b → (TX0 a).2.1 ≠ (TX0 b).2.1 := by decide +kernel
theorem tyX0_ok : ∀ k, k < 13 → parseFieldDescriptor (TX0 k).2.2.1 = some (tyX0 k) := by decide +kernel
def RX1 : String := "AcidCity$Charter"
def TX1 : u_T := fun k => match k with
  | 0 => ("AcidCity$Charter", "key", "[I", true)
  | 1 => ("AcidCity$Charter", "force", "[I", true)
  | 2 => ("AcidCity$Charter", "struck", "[I", true)
  | 3 => ("AcidCity$Charter", "leaves", "[I", true)
  | 4 => ("AcidCity$Charter", "length", "[I", true)
  | 5 => ("AcidCity$Charter", "code", "[[I", true)
  | 6 => ("AcidCity$Charter", "texts", "I", false)
  | 7 => ("AcidCity$Charter", "voted", "I", false)
  | 8 => ("AcidCity$Charter", "striking", "Z", false)
  | 9 => ("AcidCity$Charter", "said", "[I", true)
  | 10 => ("AcidCity$Charter", "names", "[I", true)
  | 11 => ("AcidCity$Charter", "stack", "[I", true)
  | 12 => ("AcidCity$Charter", "parts", "[I", true)
  | _ => ("AcidCity$Charter", "ranks", "[I", true)
def tyX1 : Nat → FieldType := fun k => match k with
  | 0 => .array .int
  | 1 => .array .int
  | 2 => .array .int
  | 3 => .array .int
  | 4 => .array .int
  | 5 => .array (.array .int)
  | 6 => .int
  | 7 => .int
  | 8 => .boolean
  | 9 => .array .int
  | 10 => .array .int
  | 11 => .array .int
  | 12 => .array .int
  | _ => .array .int
theorem nmX1 : ∀ a, a < 14 → ∀ b, b < 14 → a ≠ b → (TX1 a).2.1 ≠ (TX1 b).2.1 := by decide +kernel
theorem tyX1_ok : ∀ k, k < 14 → parseFieldDescriptor (TX1 k).2.2.1 = some (tyX1 k) := by decide +kernel
def RX2 : String := "AcidCity$City"
def TX2 : u_T := fun k => match k with
  | 0 => ("AcidCity$City", "cells", "LAcidCity$Cells;", true)
  | 1 => ("AcidCity$City", "works", "LAcidCity$Works;", true)
  | 2 => ("AcidCity$City", "people", "LAcidCity$People;", true)
  | 3 => ("AcidCity$City", "stores", "[I", true)
  | 4 => ("AcidCity$City", "tables", "[[I", true)
  | 5 => ("AcidCity$City", "height", "I", false)
  | 6 => ("AcidCity$City", "phase", "I", false)
  | 7 => ("AcidCity$City", "round", "I", false)
  | 8 => ("AcidCity$City", "late", "I", false)
  | _ => ("AcidCity$City", "minute", "I", false)
def tyX2 : Nat → FieldType := fun k => match k with
  | 0 => .object "AcidCity$Cells"
  | 1 => .object "AcidCity$Works"
  | 2 => .object "AcidCity$People"
  | 3 => .array .int
  | 4 => .array (.array .int)
  | 5 => .int
  | 6 => .int
  | 7 => .int
  | 8 => .int
  | _ => .int
theorem nmX2 : ∀ a, a < 10 → ∀ b, b < 10 → a ≠ b → (TX2 a).2.1 ≠ (TX2 b).2.1 := by decide +kernel
theorem tyX2_ok : ∀ k, k < 10 → parseFieldDescriptor (TX2 k).2.2.1 = some (tyX2 k) := by decide +kernel
def RX3 : String := "AcidCity$Dark"
def TX3 : u_T := fun k => match k with
  | 0 => ("AcidCity$Dark", "harm", "[I", true)
  | _ => ("AcidCity$Dark", "chosen", "[J", true)
def tyX3 : Nat → FieldType := fun k => match k with
  | 0 => .array .int
  | _ => .array .long
theorem nmX3 : ∀ a, a < 2 → ∀ b, b < 2 → a ≠ b → (TX3 a).2.1 ≠ (TX3 b).2.1 := by decide +kernel
theorem tyX3_ok : ∀ k, k < 2 → parseFieldDescriptor (TX3 k).2.2.1 = some (tyX3 k) := by decide +kernel
def RX4 : String := "AcidCity$Desk"
def TX4 : u_T := fun k => match k with
  | 0 => ("AcidCity$Desk", "shown", "[[I", true)
  | 1 => ("AcidCity$Desk", "seen", "[I", true)
  | 2 => ("AcidCity$Desk", "drops", "[I", true)
  | 3 => ("AcidCity$Desk", "taken", "[I", true)
  | 4 => ("AcidCity$Desk", "harms", "[[I", true)
  | 5 => ("AcidCity$Desk", "orbit", "[I", true)
  | 6 => ("AcidCity$Desk", "begin", "[I", true)
  | 7 => ("AcidCity$Desk", "open", "[I", true)
  | 8 => ("AcidCity$Desk", "ships", "I", false)
  | 9 => ("AcidCity$Desk", "mass", "[I", true)
  | 10 => ("AcidCity$Desk", "worth", "[I", true)
  | 11 => ("AcidCity$Desk", "lots", "I", false)
  | 12 => ("AcidCity$Desk", "years", "[I", true)
  | 13 => ("AcidCity$Desk", "more", "[I", true)
  | 14 => ("AcidCity$Desk", "ahead", "[I", true)
  | _ => ("AcidCity$Desk", "builds", "I", false)
def tyX4 : Nat → FieldType := fun k => match k with
  | 0 => .array (.array .int)
  | 1 => .array .int
  | 2 => .array .int
  | 3 => .array .int
  | 4 => .array (.array .int)
  | 5 => .array .int
  | 6 => .array .int
  | 7 => .array .int
  | 8 => .int
  | 9 => .array .int
  | 10 => .array .int
  | 11 => .int
  | 12 => .array .int
  | 13 => .array .int
  | 14 => .array .int
  | _ => .int
theorem nmX4 : ∀ a, a < 16 → ∀ b, b < 16 → a ≠ b → (TX4 a).2.1 ≠ (TX4 b).2.1 := by decide +kernel
theorem tyX4_ok : ∀ k, k < 16 → parseFieldDescriptor (TX4 k).2.2.1 = some (tyX4 k) := by decide +kernel
def RX5 : String := "AcidCity$Gauges"
def TX5 : u_T := fun k => match k with
  | 0 => ("AcidCity$Gauges", "sort", "[I", true)
  | 1 => ("AcidCity$Gauges", "size", "[I", true)
  | _ => ("AcidCity$Gauges", "row", "[[I", true)
def tyX5 : Nat → FieldType := fun k => match k with
  | 0 => .array .int
  | 1 => .array .int
  | _ => .array (.array .int)
theorem nmX5 : ∀ a, a < 3 → ∀ b, b < 3 → a ≠ b → (TX5 a).2.1 ≠ (TX5 b).2.1 := by decide +kernel
theorem tyX5_ok : ∀ k, k < 3 → parseFieldDescriptor (TX5 k).2.2.1 = some (tyX5 k) := by decide +kernel
def RX6 : String := "AcidCity$Order"
def TX6 : u_T := fun k => match k with
  | 0 => ("AcidCity$Order", "best", "[I", true)
  | 1 => ("AcidCity$Order", "row", "[I", true)
  | 2 => ("AcidCity$Order", "span", "I", false)
  | 3 => ("AcidCity$Order", "triesLeft", "I", false)
  | _ => ("AcidCity$Order", "most", "I", false)
def tyX6 : Nat → FieldType := fun k => match k with
  | 0 => .array .int
  | 1 => .array .int
  | 2 => .int
  | 3 => .int
  | _ => .int
theorem nmX6 : ∀ a, a < 5 → ∀ b, b < 5 → a ≠ b → (TX6 a).2.1 ≠ (TX6 b).2.1 := by decide +kernel
theorem tyX6_ok : ∀ k, k < 5 → parseFieldDescriptor (TX6 k).2.2.1 = some (tyX6 k) := by decide +kernel
def RX7 : String := "AcidCity$People"
def TX7 : u_T := fun k => match k with
  | 0 => ("AcidCity$People", "age", "[I", true)
  | 1 => ("AcidCity$People", "craft", "[I", true)
  | 2 => ("AcidCity$People", "home", "[I", true)
  | 3 => ("AcidCity$People", "sick", "[I", true)
  | _ => ("AcidCity$People", "many", "I", false)
def tyX7 : Nat → FieldType := fun k => match k with
  | 0 => .array .int
  | 1 => .array .int
  | 2 => .array .int
  | 3 => .array .int
  | _ => .int
theorem nmX7 : ∀ a, a < 5 → ∀ b, b < 5 → a ≠ b → (TX7 a).2.1 ≠ (TX7 b).2.1 := by decide +kernel
theorem tyX7_ok : ∀ k, k < 5 → parseFieldDescriptor (TX7 k).2.2.1 = some (tyX7 k) := by decide +kernel
def RX8 : String := "AcidCity$Rounds"
def TX8 : u_T := fun k => match k with
  | 0 => ("AcidCity$Rounds", "firstLack", "I", false)
  | 1 => ("AcidCity$Rounds", "sewnThen", "I", false)
  | 2 => ("AcidCity$Rounds", "layers", "[I", true)
  | 3 => ("AcidCity$Rounds", "worn", "[I", true)
  | 4 => ("AcidCity$Rounds", "falls", "[I", true)
  | 5 => ("AcidCity$Rounds", "wearAhead", "[I", true)
  | 6 => ("AcidCity$Rounds", "hours", "I", false)
  | _ => ("AcidCity$Rounds", "least", "I", false)
def tyX8 : Nat → FieldType := fun k => match k with
  | 0 => .int
  | 1 => .int
  | 2 => .array .int
  | 3 => .array .int
  | 4 => .array .int
  | 5 => .array .int
  | 6 => .int
  | _ => .int
theorem nmX8 : ∀ a, a < 8 → ∀ b, b < 8 → a ≠ b → (TX8 a).2.1 ≠ (TX8 b).2.1 := by decide +kernel
theorem tyX8_ok : ∀ k, k < 8 → parseFieldDescriptor (TX8 k).2.2.1 = some (tyX8 k) := by decide +kernel
def RX9 : String := "AcidCity$Tape"
def TX9 : u_T := fun k => match k with
  | 0 => ("AcidCity$Tape", "bytes", "[I", true)
  | 1 => ("AcidCity$Tape", "length", "I", false)
  | 2 => ("AcidCity$Tape", "key", "I", false)
  | 3 => ("AcidCity$Tape", "code", "[I", true)
  | 4 => ("AcidCity$Tape", "codes", "I", false)
  | 5 => ("AcidCity$Tape", "leaves", "I", false)
  | 6 => ("AcidCity$Tape", "pending", "[I", true)
  | 7 => ("AcidCity$Tape", "pendings", "I", false)
  | 8 => ("AcidCity$Tape", "brackets", "I", false)
  | 9 => ("AcidCity$Tape", "nots", "I", false)
  | _ => ("AcidCity$Tape", "partDue", "Z", false)
def tyX9 : Nat → FieldType := fun k => match k with
  | 0 => .array .int
  | 1 => .int
  | 2 => .int
  | 3 => .array .int
  | 4 => .int
  | 5 => .int
  | 6 => .array .int
  | 7 => .int
  | 8 => .int
  | 9 => .int
  | _ => .boolean
theorem nmX9 : ∀ a, a < 11 → ∀ b, b < 11 → a ≠ b → (TX9 a).2.1 ≠ (TX9 b).2.1 := by decide +kernel
theorem tyX9_ok : ∀ k, k < 11 → parseFieldDescriptor (TX9 k).2.2.1 = some (tyX9 k) := by decide +kernel
def RX10 : String := "AcidCity$Works"
def TX10 : u_T := fun k => match k with
  | 0 => ("AcidCity$Works", "kind", "[I", true)
  | 1 => ("AcidCity$Works", "place", "[I", true)
  | 2 => ("AcidCity$Works", "mass", "[I", true)
  | 3 => ("AcidCity$Works", "on", "[I", true)
  | 4 => ("AcidCity$Works", "foul", "[I", true)
  | 5 => ("AcidCity$Works", "fouling", "[I", true)
  | 6 => ("AcidCity$Works", "hidden", "[I", true)
  | 7 => ("AcidCity$Works", "a", "[I", true)
  | 8 => ("AcidCity$Works", "b", "[I", true)
  | 9 => ("AcidCity$Works", "worn", "[I", true)
  | 10 => ("AcidCity$Works", "gone", "[I", true)
  | 11 => ("AcidCity$Works", "level", "[I", true)
  | 12 => ("AcidCity$Works", "heat", "[I", true)
  | _ => ("AcidCity$Works", "many", "I", false)
def tyX10 : Nat → FieldType := fun k => match k with
  | 0 => .array .int
  | 1 => .array .int
  | 2 => .array .int
  | 3 => .array .int
  | 4 => .array .int
  | 5 => .array .int
  | 6 => .array .int
  | 7 => .array .int
  | 8 => .array .int
  | 9 => .array .int
  | 10 => .array .int
  | 11 => .array .int
  | 12 => .array .int
  | _ => .int
theorem nmX10 : ∀ a, a < 14 → ∀ b, b < 14 → a ≠ b → (TX10 a).2.1 ≠ (TX10 b).2.1 := by decide +kernel
theorem tyX10_ok : ∀ k, k < 14 → parseFieldDescriptor (TX10 k).2.2.1 = some (tyX10 k) := by decide +kernel
def RX11 : String := "AcidCity"
def TX11 : u_T := fun k => match k with
  | 0 => ("AcidCity", "now", "LAcidCity$City;", true)
  | 1 => ("AcidCity", "law", "LAcidCity$Charter;", true)
  | 2 => ("AcidCity", "desk", "LAcidCity$Desk;", true)
  | 3 => ("AcidCity", "keptNow", "LAcidCity$City;", true)
  | 4 => ("AcidCity", "keptLaw", "LAcidCity$Charter;", true)
  | 5 => ("AcidCity", "keptDesk", "LAcidCity$Desk;", true)
  | 6 => ("AcidCity", "kept", "Z", false)
  | 7 => ("AcidCity", "foretold", "LAcidCity$City;", true)
  | 8 => ("AcidCity", "tape", "LAcidCity$Tape;", true)
  | 9 => ("AcidCity", "gauges", "LAcidCity$Gauges;", true)
  | 10 => ("AcidCity", "rounds", "LAcidCity$Rounds;", true)
  | 11 => ("AcidCity", "night", "LAcidCity$Dark;", true)
  | 12 => ("AcidCity", "yard", "LAcidCity$Order;", true)
  | 13 => ("AcidCity", "waiting", "[I", true)
  | 14 => ("AcidCity", "waits", "I", false)
  | _ => ("AcidCity", "due", "[I", true)
def tyX11 : Nat → FieldType := fun k => match k with
  | 0 => .object "AcidCity$City"
  | 1 => .object "AcidCity$Charter"
  | 2 => .object "AcidCity$Desk"
  | 3 => .object "AcidCity$City"
  | 4 => .object "AcidCity$Charter"
  | 5 => .object "AcidCity$Desk"
  | 6 => .boolean
  | 7 => .object "AcidCity$City"
  | 8 => .object "AcidCity$Tape"
  | 9 => .object "AcidCity$Gauges"
  | 10 => .object "AcidCity$Rounds"
  | 11 => .object "AcidCity$Dark"
  | 12 => .object "AcidCity$Order"
  | 13 => .array .int
  | 14 => .int
  | _ => .array .int
theorem nmX11 : ∀ a, a < 16 → ∀ b, b < 16 → a ≠ b → (TX11 a).2.1 ≠ (TX11 b).2.1 := by decide +kernel
theorem tyX11_ok : ∀ k, k < 16 → parseFieldDescriptor (TX11 k).2.2.1 = some (tyX11 k) := by decide +kernel
def RX12 : String := "AcidCityModel"
def TX12 : u_T := fun k => match k with
  | 0 => ("AcidCityModel", "s", "[I", true)
  | 1 => ("AcidCityModel", "image", "[I", true)
  | 2 => ("AcidCityModel", "aside", "[I", true)
  | 3 => ("AcidCityModel", "hasImage", "Z", false)
  | 4 => ("AcidCityModel", "gSort", "[I", true)
  | 5 => ("AcidCityModel", "gSize", "[I", true)
  | 6 => ("AcidCityModel", "gNumber", "[I", true)
  | 7 => ("AcidCityModel", "tape", "[I", true)
  | 8 => ("AcidCityModel", "taped", "I", false)
  | 9 => ("AcidCityModel", "begin", "I", false)
  | 10 => ("AcidCityModel", "behind", "I", false)
  | 11 => ("AcidCityModel", "token", "I", false)
  | 12 => ("AcidCityModel", "number", "I", false)
  | 13 => ("AcidCityModel", "letter", "I", false)
  | 14 => ("AcidCityModel", "deep", "I", false)
  | 15 => ("AcidCityModel", "turned", "I", false)
  | 16 => ("AcidCityModel", "laid", "I", false)
  | 17 => ("AcidCityModel", "laidAt", "I", false)
  | 18 => ("AcidCityModel", "said", "I", false)
  | 19 => ("AcidCityModel", "named", "[I", true)
  | 20 => ("AcidCityModel", "pile", "[I", true)
  | 21 => ("AcidCityModel", "shares", "[I", true)
  | 22 => ("AcidCityModel", "shedRow", "[I", true)
  | 23 => ("AcidCityModel", "shedWorth", "[I", true)
  | 24 => ("AcidCityModel", "carried", "[I", true)
  | 25 => ("AcidCityModel", "layers", "[I", true)
  | 26 => ("AcidCityModel", "worn", "[I", true)
  | 27 => ("AcidCityModel", "layersLeft", "I", false)
  | 28 => ("AcidCityModel", "wornLeft", "I", false)
  | 29 => ("AcidCityModel", "sewn", "I", false)
  | 30 => ("AcidCityModel", "harms", "[I", true)
  | 31 => ("AcidCityModel", "built", "[I", true)
  | 32 => ("AcidCityModel", "bestBuilt", "[I", true)
  | 33 => ("AcidCityModel", "bestSum", "I", false)
  | 34 => ("AcidCityModel", "triesLeft", "I", false)
  | 35 => ("AcidCityModel", "isSpent", "Z", false)
  | 36 => ("AcidCityModel", "waits", "[I", true)
  | 37 => ("AcidCityModel", "waiting", "I", false)
  | 38 => ("AcidCityModel", "due", "[I", true)
  | _ => ("AcidCityModel", "dues", "I", false)
def tyX12 : Nat → FieldType := fun k => match k with
  | 0 => .array .int
  | 1 => .array .int
  | 2 => .array .int
  | 3 => .boolean
  | 4 => .array .int
  | 5 => .array .int
  | 6 => .array .int
  | 7 => .array .int
  | 8 => .int
  | 9 => .int
  | 10 => .int
  | 11 => .int
  | 12 => .int
  | 13 => .int
  | 14 => .int
  | 15 => .int
  | 16 => .int
  | 17 => .int
  | 18 => .int
  | 19 => .array .int
  | 20 => .array .int
  | 21 => .array .int
  | 22 => .array .int
  | 23 => .array .int
  | 24 => .array .int
  | 25 => .array .int
  | 26 => .array .int
  | 27 => .int
  | 28 => .int
  | 29 => .int
  | 30 => .array .int
  | 31 => .array .int
  | 32 => .array .int
  | 33 => .int
  | 34 => .int
  | 35 => .boolean
  | 36 => .array .int
  | 37 => .int
  | 38 => .array .int
  | _ => .int
theorem nmX12 : ∀ a, a < 40 → ∀ b, b < 40 → a ≠ b → (TX12 a).2.1 ≠ (TX12 b).2.1 := by decide +kernel
theorem tyX12_ok : ∀ k, k < 40 → parseFieldDescriptor (TX12 k).2.2.1 = some (tyX12 k) := by decide +kernel
abbrev vwCl : List vw_C := [(RX0, TX0, 13), (RX1, TX1, 14), (RX2, TX2, 10), (RX3, TX3, 2), (RX4, TX4, 16), (RX5, TX5, 3), (RX6, TX6, 5), (RX7, TX7, 5), (RX8, TX8, 8), (RX9, TX9, 11), (RX10, TX10, 14), (RX11, TX11, 16), (RX12, TX12, 40)]
def xTc : List (List Cond) := [k2_sels lw_privs_1, k2_sels lw_privs_2, k2_sels lw_privs_3, k2_sels lw_privs_4, k2_sels lw_privs_5, k2_sels lw_privs_6, k2_sels lw_privs_7, k2_sels lw_privs_8, k2_sels lw_privs_9, tables_1_1, tables_1_2, tables_1_3, tables_1_4, tables_1_5, tables_1_6, tables_1_7, tables_1_8, tables_1_9, tables_1_10, tables_1_11]
def xTys : List FieldType := [.int, .long, .array .int]

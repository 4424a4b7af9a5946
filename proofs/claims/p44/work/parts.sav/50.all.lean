set_option linter.all false
/-! THE LAW (written by gen40.py) -/
theorem xTc_flat : xTc.flatten = lw_tbl := by
  simp only [xTc, List.flatten_cons, List.flatten_nil, lw_tbl, lw_privs, k2_sels, tables_1, List.map_append, List.append_assoc, List.append_nil]
theorem xTc_in {r : List Cond} (hr : r ∈ xTc) {w : Cond} (hw : w ∈ r) : w ∈ lw_tbl := by
  rw [← xTc_flat]
  exact List.mem_flatten.mpr ⟨r, hr, hw⟩
theorem xpos {i : Nat} {w : Cond} (h : xwd xTc i w = true) : w ∈ lw_tbl := by
  obtain ⟨r, h1, h2⟩ := xwd_of h
  exact xTc_in h1 h2
theorem xTs_in : ∀ w ∈ xTs xTc, w ∈ lw_tbl := by
  intro w hw
  obtain ⟨r, h1, h2⟩ := List.mem_flatten.mp hw
  obtain ⟨q, h3, rfl⟩ := List.mem_map.mp h1
  exact xTc_in h3 (List.mem_filter.mp h2).1
theorem xNs_in : ∀ w ∈ xNs xTc, w ∈ lw_tbl := by
  intro w hw
  obtain ⟨r, h1, h2⟩ := List.mem_flatten.mp hw
  obtain ⟨q, h3, rfl⟩ := List.mem_map.mp h1
  exact xTc_in h3 (List.mem_filter.mp h2).1
theorem xG1 : ∀ (ci : Nat) (C : String) (T : u_T) (N : Nat), vwCl[ci]? = some (C, T, N) → xTb (xTs xTc) C T N
  | 0, _, _, _, h => by cases h; exact xcl_0
  | 1, _, _, _, h => by cases h; exact xcl_1
  | 2, _, _, _, h => by cases h; exact xcl_2
  | 3, _, _, _, h => by cases h; exact xcl_3
  | 4, _, _, _, h => by cases h; exact xcl_4
  | 5, _, _, _, h => by cases h; exact xcl_5
  | 6, _, _, _, h => by cases h; exact xcl_6
  | 7, _, _, _, h => by cases h; exact xcl_7
  | 8, _, _, _, h => by cases h; exact xcl_8
  | 9, _, _, _, h => by cases h; exact xcl_9
  | 10, _, _, _, h => by cases h; exact xcl_10
  | 11, _, _, _, h => by cases h; exact xcl_11
  | 12, _, _, _, h => by cases h; exact xcl_12
  | n + 13, _, _, _, h => by simp [vwCl] at h
def xPm (mc : xM) : Prop := plainFor mc.1 = true ∧ xokc xTc xMs vwCl xTys mc (xcd mc) = true ∧ xatp 0 (xcd mc) ∧ Jvm.Cond.code mc.1 mc.2.1 mc.2.2.1 mc.2.2.2.1 ∈ xTs xTc
def xpc (p : Nat × xM) : Bool := plainFor p.2.1 && xwc xTc p.1 p.2
theorem xpg_0 : (List.all [(9243, xm_0), (9251, xm_1), (9257, xm_2), (9320, xm_3), (9395, xm_4), (10258, xm_5), (10316, xm_6), (10391, xm_7), (10436, xm_8), (10453, xm_9), (11270, xm_10), (11284, xm_11), (11355, xm_12), (11358, xm_13), (11363, xm_14), (11370, xm_15), (11374, xm_16), (11378, xm_17), (11382, xm_18), (11387, xm_19), (11391, xm_20), (11395, xm_21), (11399, xm_22), (11403, xm_23), (11407, xm_24), (11411, xm_25), (11415, xm_26), (11419, xm_27), (11424, xm_28), (11428, xm_29), (11432, xm_30), (11436, xm_31), (11440, xm_32), (11444, xm_33), (11448, xm_34), (11452, xm_35), (11456, xm_36), (11460, xm_37), (11463, xm_38), (11468, xm_39), (11472, xm_40), (11476, xm_41), (11480, xm_42), (11486, xm_43), (11492, xm_44), (11496, xm_45), (11500, xm_46), (12289, xm_47), (12293, xm_48), (12298, xm_49), (12302, xm_50), (12306, xm_51), (12310, xm_52), (12314, xm_53), (12318, xm_54), (12322, xm_55), (12327, xm_56), (12331, xm_57), (12339, xm_58), (12343, xm_59)] xpc) = true := by decide +kernel
theorem xpg_1 : (List.all [(12347, xm_60), (12353, xm_61), (12357, xm_62), (12361, xm_63), (12365, xm_64), (12369, xm_65), (12373, xm_66), (12377, xm_67), (12381, xm_68), (12387, xm_69), (12391, xm_70), (12395, xm_71), (12399, xm_72), (12404, xm_73), (12408, xm_74), (12411, xm_75), (12421, xm_76), (12427, xm_77), (12431, xm_78), (12435, xm_79), (12439, xm_80), (12445, xm_81), (12449, xm_82), (12454, xm_83), (12458, xm_84), (12464, xm_85), (12468, xm_86), (12472, xm_87), (12477, xm_88), (12481, xm_89), (12486, xm_90), (12491, xm_91), (12495, xm_92), (12499, xm_93), (12505, xm_94), (12511, xm_95), (12515, xm_96), (12519, xm_97), (12523, xm_98), (12527, xm_99), (13315, xm_100), (13320, xm_101), (13324, xm_102), (13328, xm_103), (13332, xm_104), (13337, xm_105), (13341, xm_106), (13346, xm_107), (13350, xm_108), (13355, xm_109), (13359, xm_110), (13363, xm_111), (13367, xm_112), (13371, xm_113), (13375, xm_114), (13378, xm_115), (13381, xm_116), (13385, xm_117), (13388, xm_118), (13398, xm_119)] xpc) = true := by decide +kernel
theorem xpg_2 : (List.all [(13451, xm_120), (13454, xm_121), (13518, xm_122), (13522, xm_123), (13526, xm_124), (13530, xm_125), (13534, xm_126), (13538, xm_127), (13542, xm_128), (13545, xm_129), (13548, xm_130), (14337, xm_131), (14344, xm_132), (14348, xm_133), (14353, xm_134), (14357, xm_135), (14362, xm_136), (14366, xm_137), (14370, xm_138), (14374, xm_139), (14378, xm_140), (14383, xm_141), (14390, xm_142), (14395, xm_143), (14399, xm_144), (14404, xm_145), (14408, xm_146), (14412, xm_147), (14418, xm_148), (14422, xm_149), (14426, xm_150), (14431, xm_151), (14436, xm_152), (14440, xm_153), (14444, xm_154), (14448, xm_155), (14454, xm_156), (14459, xm_157), (14464, xm_158), (14468, xm_159), (14473, xm_160), (14484, xm_161), (14488, xm_162), (14492, xm_163), (14496, xm_164), (14499, xm_165), (14503, xm_166), (14507, xm_167), (14511, xm_168), (14516, xm_169), (14520, xm_170), (14524, xm_171), (14528, xm_172), (14538, xm_173), (14542, xm_174), (14549, xm_175), (14554, xm_176), (14558, xm_177), (14562, xm_178), (14567, xm_179)] xpc) = true := by decide +kernel
theorem xpg_3 : (List.all [(14572, xm_180), (15360, xm_181), (15365, xm_182), (15369, xm_183), (15373, xm_184), (15377, xm_185), (15381, xm_186), (15385, xm_187), (15389, xm_188), (15393, xm_189), (15397, xm_190), (15402, xm_191), (15406, xm_192), (15411, xm_193), (15415, xm_194), (15419, xm_195), (15424, xm_196), (15428, xm_197), (15436, xm_198), (15440, xm_199), (15444, xm_200), (15449, xm_201), (15453, xm_202), (15457, xm_203), (15461, xm_204), (15465, xm_205), (15469, xm_206), (15474, xm_207), (15474, xm_208), (15474, xm_209), (15474, xm_210), (15474, xm_211), (15474, xm_212), (15474, xm_213), (15474, xm_214), (15478, xm_215), (15485, xm_216), (15489, xm_217), (15493, xm_218), (15497, xm_219), (15501, xm_220), (15505, xm_221), (15509, xm_222), (15513, xm_223), (15517, xm_224), (15520, xm_225), (15525, xm_226), (15530, xm_227), (15537, xm_228), (15541, xm_229), (15545, xm_230), (15550, xm_231), (15556, xm_232), (15560, xm_233), (15564, xm_234), (15569, xm_235), (15574, xm_236), (16484, xm_237), (16488, xm_238), (16494, xm_239)] xpc) = true := by decide +kernel
theorem xpg_4 : (List.all [(16498, xm_240), (16502, xm_241), (16509, xm_242), (16513, xm_243), (16518, xm_244), (16522, xm_245), (16526, xm_246), (16530, xm_247), (16534, xm_248), (16538, xm_249), (16543, xm_250), (16547, xm_251), (16551, xm_252), (16555, xm_253), (16559, xm_254), (16563, xm_255), (16567, xm_256), (16571, xm_257), (16575, xm_258), (16579, xm_259), (16583, xm_260), (16586, xm_261), (16591, xm_262), (16595, xm_263), (16600, xm_264), (16606, xm_265), (16611, xm_266), (16615, xm_267), (16619, xm_268), (16623, xm_269), (17412, xm_270), (17417, xm_271), (17421, xm_272), (17425, xm_273), (17429, xm_274), (17433, xm_275), (17437, xm_276), (17441, xm_277), (17447, xm_278), (17452, xm_279), (17456, xm_280), (17460, xm_281), (17465, xm_282), (17469, xm_283), (17475, xm_284), (17480, xm_285), (17484, xm_286), (17488, xm_287), (17492, xm_288), (17496, xm_289), (17500, xm_290), (17503, xm_291), (17507, xm_292), (17511, xm_293), (17515, xm_294), (17519, xm_295), (17523, xm_296), (17527, xm_297), (17531, xm_298), (17536, xm_299)] xpc) = true := by decide +kernel
theorem xpg_5 : (List.all [(17540, xm_300), (17544, xm_301), (17549, xm_302), (17553, xm_303), (17557, xm_304), (17561, xm_305), (17566, xm_306), (17570, xm_307), (17575, xm_308), (17579, xm_309), (17584, xm_310), (17588, xm_311), (17592, xm_312), (17596, xm_313), (17600, xm_314), (17604, xm_315), (17610, xm_316), (17616, xm_317), (17620, xm_318), (17624, xm_319), (17624, xm_320), (17624, xm_321), (17624, xm_322), (17624, xm_323), (17624, xm_324), (17624, xm_325), (17624, xm_326), (17624, xm_327), (17624, xm_328), (17624, xm_329), (17624, xm_330), (17624, xm_331), (17624, xm_332), (17624, xm_333), (17624, xm_334), (17624, xm_335), (17628, xm_336), (17628, xm_337), (17628, xm_338), (17628, xm_339), (17628, xm_340), (17628, xm_341), (17628, xm_342), (17628, xm_343), (17628, xm_344), (17628, xm_345), (17628, xm_346), (17628, xm_347), (17628, xm_348), (17628, xm_349), (17628, xm_350), (17628, xm_351), (17628, xm_352), (17632, xm_353), (17632, xm_354), (17632, xm_355), (17632, xm_356), (17632, xm_357), (17632, xm_358), (17632, xm_359)] xpc) = true := by decide +kernel
theorem xpg_6 : (List.all [(17632, xm_360), (17632, xm_361), (17632, xm_362), (17632, xm_363), (17632, xm_364), (17632, xm_365), (17632, xm_366), (17632, xm_367), (17632, xm_368), (17632, xm_369), (17636, xm_370), (17636, xm_371), (17636, xm_372), (17636, xm_373), (17636, xm_374), (17636, xm_375), (17636, xm_376), (17636, xm_377), (17636, xm_378), (17636, xm_379), (17636, xm_380), (17636, xm_381), (17636, xm_382), (17636, xm_383), (17636, xm_384), (17636, xm_385), (17636, xm_386), (17640, xm_387), (17640, xm_388), (17640, xm_389), (17640, xm_390), (17640, xm_391), (17640, xm_392), (17640, xm_393), (17640, xm_394), (17640, xm_395), (17640, xm_396), (17640, xm_397), (17640, xm_398), (17640, xm_399), (17640, xm_400), (17640, xm_401), (17640, xm_402), (17640, xm_403), (17644, xm_404), (17644, xm_405), (17644, xm_406), (17644, xm_407), (17644, xm_408), (17644, xm_409), (17644, xm_410), (17644, xm_411), (17644, xm_412), (17644, xm_413), (17644, xm_414), (17644, xm_415), (17644, xm_416), (17644, xm_417), (17644, xm_418), (17644, xm_419)] xpc) = true := by decide +kernel
theorem xpg_7 : (List.all [(17644, xm_420), (18432, xm_421), (18435, xm_422), (18439, xm_423), (18443, xm_424), (18447, xm_425), (18451, xm_426), (18455, xm_427), (18459, xm_428), (18463, xm_429), (18467, xm_430), (18471, xm_431), (18475, xm_432), (18479, xm_433), (18483, xm_434), (18487, xm_435), (18491, xm_436), (18495, xm_437), (18499, xm_438), (18505, xm_439), (18513, xm_440), (18517, xm_441), (18521, xm_442), (18525, xm_443), (18530, xm_444), (18534, xm_445), (18537, xm_446), (18541, xm_447), (18546, xm_448), (18550, xm_449), (18553, xm_450), (18557, xm_451), (18561, xm_452), (18565, xm_453), (18570, xm_454), (18574, xm_455), (18578, xm_456), (18582, xm_457), (18586, xm_458), (18590, xm_459), (18594, xm_460), (18598, xm_461), (18602, xm_462), (18606, xm_463), (18611, xm_464), (18614, xm_465), (18620, xm_466), (18625, xm_467), (18629, xm_468), (18633, xm_469), (18637, xm_470), (18641, xm_471), (18645, xm_472), (18649, xm_473), (18653, xm_474), (18657, xm_475), (18662, xm_476), (18665, xm_477), (18670, xm_478), (19458, xm_479)] xpc) = true := by decide +kernel
theorem xpg_8 : (List.all [(19458, xm_480), (19458, xm_481), (19458, xm_482), (19458, xm_483), (19458, xm_484), (19458, xm_485), (19458, xm_486), (19463, xm_487), (19467, xm_488), (19471, xm_489), (19475, xm_490), (19479, xm_491), (19483, xm_492), (19487, xm_493), (19491, xm_494), (19495, xm_495), (19499, xm_496), (19503, xm_497), (10321, xm_498), (14531, xm_499), (15431, xm_500)] xpc) = true := by decide +kernel
theorem xpm_0 : xPm xm_0 := have h := Bool.and_eq_true_iff.mp (List.all_eq_true.mp xpg_0 (9243, xm_0) (List.mem_of_getElem? (i := 0) rfl)); ⟨h.1, xok_0, fun i r e => by cases e; rfl, xwc_of h.2⟩
theorem xpm_1 : xPm xm_1 := have h := Bool.and_eq_true_iff.mp (List.all_eq_true.mp xpg_0 (9251, xm_1) (List.mem_of_getElem? (i := 1) rfl)); ⟨h.1, xok_1, fun i r e => by cases e; rfl, xwc_of h.2⟩
theorem xpm_2 : xPm xm_2 := have h := Bool.and_eq_true_iff.mp (List.all_eq_true.mp xpg_0 (9257, xm_2) (List.mem_of_getElem? (i := 2) rfl)); ⟨h.1, xok_2, fun i r e => by cases e; rfl, xwc_of h.2⟩
theorem xpm_3 : xPm xm_3 := have h := Bool.and_eq_true_iff.mp (List.all_eq_true.mp xpg_0 (9320, xm_3) (List.mem_of_getElem? (i := 3) rfl)); ⟨h.1, xok_3, fun i r e => by cases e; rfl, xwc_of h.2⟩
theorem xpm_4 : xPm xm_4 := have h := Bool.and_eq_true_iff.mp (List.all_eq_true.mp xpg_0 (9395, xm_4) (List.mem_of_getElem? (i := 4) rfl)); ⟨h.1, xok_4, fun i r e => by cases e; rfl, xwc_of h.2⟩
theorem xpm_5 : xPm xm_5 := have h := Bool.and_eq_true_iff.mp (List.all_eq_true.mp xpg_0 (10258, xm_5) (List.mem_of_getElem? (i := 5) rfl)); ⟨h.1, xok_5, fun i r e => by cases e; rfl, xwc_of h.2⟩
theorem xpm_6 : xPm xm_6 := have h := Bool.and_eq_true_iff.mp (List.all_eq_true.mp xpg_0 (10316, xm_6) (List.mem_of_getElem? (i := 6) rfl)); ⟨h.1, xok_6, fun i r e => by cases e; rfl, xwc_of h.2⟩
theorem xpm_7 : xPm xm_7 := have h := Bool.and_eq_true_iff.mp (List.all_eq_true.mp xpg_0 (10391, xm_7) (List.mem_of_getElem? (i := 7) rfl)); ⟨h.1, xok_7, fun i r e => by cases e; rfl, xwc_of h.2⟩
theorem xpm_8 : xPm xm_8 := have h := Bool.and_eq_true_iff.mp (List.all_eq_true.mp xpg_0 (10436, xm_8) (List.mem_of_getElem? (i := 8) rfl)); ⟨h.1, xok_8, fun i r e => by cases e; rfl, xwc_of h.2⟩
theorem xpm_9 : xPm xm_9 := have h := Bool.and_eq_true_iff.mp (List.all_eq_true.mp xpg_0 (10453, xm_9) (List.mem_of_getElem? (i := 9) rfl)); ⟨h.1, xok_9, fun i r e => by cases e; rfl, xwc_of h.2⟩
theorem xpm_10 : xPm xm_10 := have h := Bool.and_eq_true_iff.mp (List.all_eq_true.mp xpg_0 (11270, xm_10) (List.mem_of_getElem? (i := 10) rfl)); ⟨h.1, xok_10, fun i r e => by cases e; rfl, xwc_of h.2⟩
theorem xpm_11 : xPm xm_11 := have h := Bool.and_eq_true_iff.mp (List.all_eq_true.mp xpg_0 (11284, xm_11) (List.mem_of_getElem? (i := 11) rfl)); ⟨h.1, xok_11, fun i r e => by cases e; rfl, xwc_of h.2⟩
theorem xpm_12 : xPm xm_12 := have h := Bool.and_eq_true_iff.mp (List.all_eq_true.mp xpg_0 (11355, xm_12) (List.mem_of_getElem? (i := 12) rfl)); ⟨h.1, xok_12, fun i r e => by cases e; rfl, xwc_of h.2⟩
theorem xpm_13 : xPm xm_13 := have h := Bool.and_eq_true_iff.mp (List.all_eq_true.mp xpg_0 (11358, xm_13) (List.mem_of_getElem? (i := 13) rfl)); ⟨h.1, xok_13, fun i r e => by cases e; rfl, xwc_of h.2⟩
theorem xpm_14 : xPm xm_14 := have h := Bool.and_eq_true_iff.mp (List.all_eq_true.mp xpg_0 (11363, xm_14) (List.mem_of_getElem? (i := 14) rfl)); ⟨h.1, xok_14, fun i r e => by cases e; rfl, xwc_of h.2⟩
theorem xpm_15 : xPm xm_15 := have h := Bool.and_eq_true_iff.mp (List.all_eq_true.mp xpg_0 (11370, xm_15) (List.mem_of_getElem? (i := 15) rfl)); ⟨h.1, xok_15, fun i r e => by cases e; rfl, xwc_of h.2⟩
theorem xpm_16 : xPm xm_16 := have h := Bool.and_eq_true_iff.mp (List.all_eq_true.mp xpg_0 (11374, xm_16) (List.mem_of_getElem? (i := 16) rfl)); ⟨h.1, xok_16, fun i r e => by cases e; rfl, xwc_of h.2⟩
theorem xpm_17 : xPm xm_17 := have h := Bool.and_eq_true_iff.mp (List.all_eq_true.mp xpg_0 (11378, xm_17) (List.mem_of_getElem? (i := 17) rfl)); ⟨h.1, xok_17, fun i r e => by cases e; rfl, xwc_of h.2⟩
theorem xpm_18 : xPm xm_18 := have h := Bool.and_eq_true_iff.mp (List.all_eq_true.mp xpg_0 (11382, xm_18) (List.mem_of_getElem? (i := 18) rfl)); ⟨h.1, xok_18, fun i r e => by cases e; rfl, xwc_of h.2⟩
theorem xpm_19 : xPm xm_19 := have h := Bool.and_eq_true_iff.mp (List.all_eq_true.mp xpg_0 (11387, xm_19) (List.mem_of_getElem? (i := 19) rfl)); ⟨h.1, xok_19, fun i r e => by cases e; rfl, xwc_of h.2⟩
theorem xpm_20 : xPm xm_20 := have h := Bool.and_eq_true_iff.mp (List.all_eq_true.mp xpg_0 (11391, xm_20) (List.mem_of_getElem? (i := 20) rfl)); ⟨h.1, xok_20, fun i r e => by cases e; rfl, xwc_of h.2⟩
theorem xpm_21 : xPm xm_21 := have h := Bool.and_eq_true_iff.mp (List.all_eq_true.mp xpg_0 (11395, xm_21) (List.mem_of_getElem? (i := 21) rfl)); ⟨h.1, xok_21, fun i r e => by cases e; rfl, xwc_of h.2⟩
theorem xpm_22 : xPm xm_22 := have h := Bool.and_eq_true_iff.mp (List.all_eq_true.mp xpg_0 (11399, xm_22) (List.mem_of_getElem? (i := 22) rfl)); ⟨h.1, xok_22, fun i r e => by cases e; rfl, xwc_of h.2⟩
theorem xpm_23 : xPm xm_23 := have h := Bool.and_eq_true_iff.mp (List.all_eq_true.mp xpg_0 (11403, xm_23) (List.mem_of_getElem? (i := 23) rfl)); ⟨h.1, xok_23, fun i r e => by cases e; rfl, xwc_of h.2⟩
theorem xpm_24 : xPm xm_24 := have h := Bool.and_eq_true_iff.mp (List.all_eq_true.mp xpg_0 (11407, xm_24) (List.mem_of_getElem? (i := 24) rfl)); ⟨h.1, xok_24, fun i r e => by cases e; rfl, xwc_of h.2⟩
theorem xpm_25 : xPm xm_25 := have h := Bool.and_eq_true_iff.mp (List.all_eq_true.mp xpg_0 (11411, xm_25) (List.mem_of_getElem? (i := 25) rfl)); ⟨h.1, xok_25, fun i r e => by cases e; rfl, xwc_of h.2⟩
theorem xpm_26 : xPm xm_26 := have h := Bool.and_eq_true_iff.mp (List.all_eq_true.mp xpg_0 (11415, xm_26) (List.mem_of_getElem? (i := 26) rfl)); ⟨h.1, xok_26, fun i r e => by cases e; rfl, xwc_of h.2⟩
theorem xpm_27 : xPm xm_27 := have h := Bool.and_eq_true_iff.mp (List.all_eq_true.mp xpg_0 (11419, xm_27) (List.mem_of_getElem? (i := 27) rfl)); ⟨h.1, xok_27, fun i r e => by cases e; rfl, xwc_of h.2⟩
theorem xpm_28 : xPm xm_28 := have h := Bool.and_eq_true_iff.mp (List.all_eq_true.mp xpg_0 (11424, xm_28) (List.mem_of_getElem? (i := 28) rfl)); ⟨h.1, xok_28, fun i r e => by cases e; rfl, xwc_of h.2⟩
theorem xpm_29 : xPm xm_29 := have h := Bool.and_eq_true_iff.mp (List.all_eq_true.mp xpg_0 (11428, xm_29) (List.mem_of_getElem? (i := 29) rfl)); ⟨h.1, xok_29, fun i r e => by cases e; rfl, xwc_of h.2⟩
theorem xpm_30 : xPm xm_30 := have h := Bool.and_eq_true_iff.mp (List.all_eq_true.mp xpg_0 (11432, xm_30) (List.mem_of_getElem? (i := 30) rfl)); ⟨h.1, xok_30, fun i r e => by cases e; rfl, xwc_of h.2⟩
theorem xpm_31 : xPm xm_31 := have h := Bool.and_eq_true_iff.mp (List.all_eq_true.mp xpg_0 (11436, xm_31) (List.mem_of_getElem? (i := 31) rfl)); ⟨h.1, xok_31, fun i r e => by cases e; rfl, xwc_of h.2⟩
theorem xpm_32 : xPm xm_32 := have h := Bool.and_eq_true_iff.mp (List.all_eq_true.mp xpg_0 (11440, xm_32) (List.mem_of_getElem? (i := 32) rfl)); ⟨h.1, xok_32, fun i r e => by cases e; rfl, xwc_of h.2⟩
theorem xpm_33 : xPm xm_33 := have h := Bool.and_eq_true_iff.mp (List.all_eq_true.mp xpg_0 (11444, xm_33) (List.mem_of_getElem? (i := 33) rfl)); ⟨h.1, xok_33, fun i r e => by cases e; rfl, xwc_of h.2⟩
theorem xpm_34 : xPm xm_34 := have h := Bool.and_eq_true_iff.mp (List.all_eq_true.mp xpg_0 (11448, xm_34) (List.mem_of_getElem? (i := 34) rfl)); ⟨h.1, xok_34, fun i r e => by cases e; rfl, xwc_of h.2⟩
theorem xpm_35 : xPm xm_35 := have h := Bool.and_eq_true_iff.mp (List.all_eq_true.mp xpg_0 (11452, xm_35) (List.mem_of_getElem? (i := 35) rfl)); ⟨h.1, xok_35, fun i r e => by cases e; rfl, xwc_of h.2⟩
theorem xpm_36 : xPm xm_36 := have h := Bool.and_eq_true_iff.mp (List.all_eq_true.mp xpg_0 (11456, xm_36) (List.mem_of_getElem? (i := 36) rfl)); ⟨h.1, xok_36, fun i r e => by cases e; rfl, xwc_of h.2⟩
theorem xpm_37 : xPm xm_37 := have h := Bool.and_eq_true_iff.mp (List.all_eq_true.mp xpg_0 (11460, xm_37) (List.mem_of_getElem? (i := 37) rfl)); ⟨h.1, xok_37, fun i r e => by cases e; rfl, xwc_of h.2⟩
theorem xpm_38 : xPm xm_38 := have h := Bool.and_eq_true_iff.mp (List.all_eq_true.mp xpg_0 (11463, xm_38) (List.mem_of_getElem? (i := 38) rfl)); ⟨h.1, xok_38, fun i r e => by cases e; rfl, xwc_of h.2⟩
theorem xpm_39 : xPm xm_39 := have h := Bool.and_eq_true_iff.mp (List.all_eq_true.mp xpg_0 (11468, xm_39) (List.mem_of_getElem? (i := 39) rfl)); ⟨h.1, xok_39, fun i r e => by cases e; rfl, xwc_of h.2⟩
theorem xpm_40 : xPm xm_40 := have h := Bool.and_eq_true_iff.mp (List.all_eq_true.mp xpg_0 (11472, xm_40) (List.mem_of_getElem? (i := 40) rfl)); ⟨h.1, xok_40, fun i r e => by cases e; rfl, xwc_of h.2⟩
theorem xpm_41 : xPm xm_41 := have h := Bool.and_eq_true_iff.mp (List.all_eq_true.mp xpg_0 (11476, xm_41) (List.mem_of_getElem? (i := 41) rfl)); ⟨h.1, xok_41, fun i r e => by cases e; rfl, xwc_of h.2⟩
theorem xpm_42 : xPm xm_42 := have h := Bool.and_eq_true_iff.mp (List.all_eq_true.mp xpg_0 (11480, xm_42) (List.mem_of_getElem? (i := 42) rfl)); ⟨h.1, xok_42, fun i r e => by cases e; rfl, xwc_of h.2⟩
theorem xpm_43 : xPm xm_43 := have h := Bool.and_eq_true_iff.mp (List.all_eq_true.mp xpg_0 (11486, xm_43) (List.mem_of_getElem? (i := 43) rfl)); ⟨h.1, xok_43, fun i r e => by cases e; rfl, xwc_of h.2⟩
theorem xpm_44 : xPm xm_44 := have h := Bool.and_eq_true_iff.mp (List.all_eq_true.mp xpg_0 (11492, xm_44) (List.mem_of_getElem? (i := 44) rfl)); ⟨h.1, xok_44, fun i r e => by cases e; rfl, xwc_of h.2⟩
theorem xpm_45 : xPm xm_45 := have h := Bool.and_eq_true_iff.mp (List.all_eq_true.mp xpg_0 (11496, xm_45) (List.mem_of_getElem? (i := 45) rfl)); ⟨h.1, xok_45, fun i r e => by cases e; rfl, xwc_of h.2⟩
theorem xpm_46 : xPm xm_46 := have h := Bool.and_eq_true_iff.mp (List.all_eq_true.mp xpg_0 (11500, xm_46) (List.mem_of_getElem? (i := 46) rfl)); ⟨h.1, xok_46, fun i r e => by cases e; rfl, xwc_of h.2⟩
theorem xpm_47 : xPm xm_47 := have h := Bool.and_eq_true_iff.mp (List.all_eq_true.mp xpg_0 (12289, xm_47) (List.mem_of_getElem? (i := 47) rfl)); ⟨h.1, xok_47, fun i r e => by cases e; rfl, xwc_of h.2⟩
theorem xpm_48 : xPm xm_48 := have h := Bool.and_eq_true_iff.mp (List.all_eq_true.mp xpg_0 (12293, xm_48) (List.mem_of_getElem? (i := 48) rfl)); ⟨h.1, xok_48, fun i r e => by cases e; rfl, xwc_of h.2⟩
theorem xpm_49 : xPm xm_49 := have h := Bool.and_eq_true_iff.mp (List.all_eq_true.mp xpg_0 (12298, xm_49) (List.mem_of_getElem? (i := 49) rfl)); ⟨h.1, xok_49, fun i r e => by cases e; rfl, xwc_of h.2⟩
theorem xpm_50 : xPm xm_50 := have h := Bool.and_eq_true_iff.mp (List.all_eq_true.mp xpg_0 (12302, xm_50) (List.mem_of_getElem? (i := 50) rfl)); ⟨h.1, xok_50, fun i r e => by cases e; rfl, xwc_of h.2⟩
theorem xpm_51 : xPm xm_51 := have h := Bool.and_eq_true_iff.mp (List.all_eq_true.mp xpg_0 (12306, xm_51) (List.mem_of_getElem? (i := 51) rfl)); ⟨h.1, xok_51, fun i r e => by cases e; rfl, xwc_of h.2⟩
theorem xpm_52 : xPm xm_52 := have h := Bool.and_eq_true_iff.mp (List.all_eq_true.mp xpg_0 (12310, xm_52) (List.mem_of_getElem? (i := 52) rfl)); ⟨h.1, xok_52, fun i r e => by cases e; rfl, xwc_of h.2⟩
theorem xpm_53 : xPm xm_53 := have h := Bool.and_eq_true_iff.mp (List.all_eq_true.mp xpg_0 (12314, xm_53) (List.mem_of_getElem? (i := 53) rfl)); ⟨h.1, xok_53, fun i r e => by cases e; rfl, xwc_of h.2⟩
theorem xpm_54 : xPm xm_54 := have h := Bool.and_eq_true_iff.mp (List.all_eq_true.mp xpg_0 (12318, xm_54) (List.mem_of_getElem? (i := 54) rfl)); ⟨h.1, xok_54, fun i r e => by cases e; rfl, xwc_of h.2⟩
theorem xpm_55 : xPm xm_55 := have h := Bool.and_eq_true_iff.mp (List.all_eq_true.mp xpg_0 (12322, xm_55) (List.mem_of_getElem? (i := 55) rfl)); ⟨h.1, xok_55, fun i r e => by cases e; rfl, xwc_of h.2⟩
theorem xpm_56 : xPm xm_56 := have h := Bool.and_eq_true_iff.mp (List.all_eq_true.mp xpg_0 (12327, xm_56) (List.mem_of_getElem? (i := 56) rfl)); ⟨h.1, xok_56, fun i r e => by cases e; rfl, xwc_of h.2⟩
theorem xpm_57 : xPm xm_57 := have h := Bool.and_eq_true_iff.mp (List.all_eq_true.mp xpg_0 (12331, xm_57) (List.mem_of_getElem? (i := 57) rfl)); ⟨h.1, xok_57, fun i r e => by cases e; rfl, xwc_of h.2⟩
theorem xpm_58 : xPm xm_58 := have h := Bool.and_eq_true_iff.mp (List.all_eq_true.mp xpg_0 (12339, xm_58) (List.mem_of_getElem? (i := 58) rfl)); ⟨h.1, xok_58, fun i r e => by cases e; rfl, xwc_of h.2⟩
theorem xpm_59 : xPm xm_59 := have h := Bool.and_eq_true_iff.mp (List.all_eq_true.mp xpg_0 (12343, xm_59) (List.mem_of_getElem? (i := 59) rfl)); ⟨h.1, xok_59, fun i r e => by cases e; rfl, xwc_of h.2⟩
theorem xpm_60 : xPm xm_60 := have h := Bool.and_eq_true_iff.mp (List.all_eq_true.mp xpg_1 (12347, xm_60) (List.mem_of_getElem? (i := 0) rfl)); ⟨h.1, xok_60, fun i r e => by cases e; rfl, xwc_of h.2⟩
theorem xpm_61 : xPm xm_61 := have h := Bool.and_eq_true_iff.mp (List.all_eq_true.mp xpg_1 (12353, xm_61) (List.mem_of_getElem? (i := 1) rfl)); ⟨h.1, xok_61, fun i r e => by cases e; rfl, xwc_of h.2⟩
theorem xpm_62 : xPm xm_62 := have h := Bool.and_eq_true_iff.mp (List.all_eq_true.mp xpg_1 (12357, xm_62) (List.mem_of_getElem? (i := 2) rfl)); ⟨h.1, xok_62, fun i r e => by cases e; rfl, xwc_of h.2⟩
theorem xpm_63 : xPm xm_63 := have h := Bool.and_eq_true_iff.mp (List.all_eq_true.mp xpg_1 (12361, xm_63) (List.mem_of_getElem? (i := 3) rfl)); ⟨h.1, xok_63, fun i r e => by cases e; rfl, xwc_of h.2⟩
theorem xpm_64 : xPm xm_64 := have h := Bool.and_eq_true_iff.mp (List.all_eq_true.mp xpg_1 (12365, xm_64) (List.mem_of_getElem? (i := 4) rfl)); ⟨h.1, xok_64, fun i r e => by cases e; rfl, xwc_of h.2⟩
theorem xpm_65 : xPm xm_65 := have h := Bool.and_eq_true_iff.mp (List.all_eq_true.mp xpg_1 (12369, xm_65) (List.mem_of_getElem? (i := 5) rfl)); ⟨h.1, xok_65, fun i r e => by cases e; rfl, xwc_of h.2⟩
theorem xpm_66 : xPm xm_66 := have h := Bool.and_eq_true_iff.mp (List.all_eq_true.mp xpg_1 (12373, xm_66) (List.mem_of_getElem? (i := 6) rfl)); ⟨h.1, xok_66, fun i r e => by cases e; rfl, xwc_of h.2⟩
theorem xpm_67 : xPm xm_67 := have h := Bool.and_eq_true_iff.mp (List.all_eq_true.mp xpg_1 (12377, xm_67) (List.mem_of_getElem? (i := 7) rfl)); ⟨h.1, xok_67, fun i r e => by cases e; rfl, xwc_of h.2⟩
theorem xpm_68 : xPm xm_68 := have h := Bool.and_eq_true_iff.mp (List.all_eq_true.mp xpg_1 (12381, xm_68) (List.mem_of_getElem? (i := 8) rfl)); ⟨h.1, xok_68, fun i r e => by cases e; rfl, xwc_of h.2⟩
theorem xpm_69 : xPm xm_69 := have h := Bool.and_eq_true_iff.mp (List.all_eq_true.mp xpg_1 (12387, xm_69) (List.mem_of_getElem? (i := 9) rfl)); ⟨h.1, xok_69, fun i r e => by cases e; rfl, xwc_of h.2⟩
theorem xpm_70 : xPm xm_70 := have h := Bool.and_eq_true_iff.mp (List.all_eq_true.mp xpg_1 (12391, xm_70) (List.mem_of_getElem? (i := 10) rfl)); ⟨h.1, xok_70, fun i r e => by cases e; rfl, xwc_of h.2⟩
theorem xpm_71 : xPm xm_71 := have h := Bool.and_eq_true_iff.mp (List.all_eq_true.mp xpg_1 (12395, xm_71) (List.mem_of_getElem? (i := 11) rfl)); ⟨h.1, xok_71, fun i r e => by cases e; rfl, xwc_of h.2⟩
theorem xpm_72 : xPm xm_72 := have h := Bool.and_eq_true_iff.mp (List.all_eq_true.mp xpg_1 (12399, xm_72) (List.mem_of_getElem? (i := 12) rfl)); ⟨h.1, xok_72, fun i r e => by cases e; rfl, xwc_of h.2⟩
theorem xpm_73 : xPm xm_73 := have h := Bool.and_eq_true_iff.mp (List.all_eq_true.mp xpg_1 (12404, xm_73) (List.mem_of_getElem? (i := 13) rfl)); ⟨h.1, xok_73, fun i r e => by cases e; rfl, xwc_of h.2⟩
theorem xpm_74 : xPm xm_74 := have h := Bool.and_eq_true_iff.mp (List.all_eq_true.mp xpg_1 (12408, xm_74) (List.mem_of_getElem? (i := 14) rfl)); ⟨h.1, xok_74, fun i r e => by cases e; rfl, xwc_of h.2⟩
theorem xpm_75 : xPm xm_75 := have h := Bool.and_eq_true_iff.mp (List.all_eq_true.mp xpg_1 (12411, xm_75) (List.mem_of_getElem? (i := 15) rfl)); ⟨h.1, xok_75, fun i r e => by cases e; rfl, xwc_of h.2⟩
theorem xpm_76 : xPm xm_76 := have h := Bool.and_eq_true_iff.mp (List.all_eq_true.mp xpg_1 (12421, xm_76) (List.mem_of_getElem? (i := 16) rfl)); ⟨h.1, xok_76, fun i r e => by cases e; rfl, xwc_of h.2⟩
theorem xpm_77 : xPm xm_77 := have h := Bool.and_eq_true_iff.mp (List.all_eq_true.mp xpg_1 (12427, xm_77) (List.mem_of_getElem? (i := 17) rfl)); ⟨h.1, xok_77, fun i r e => by cases e; rfl, xwc_of h.2⟩
theorem xpm_78 : xPm xm_78 := have h := Bool.and_eq_true_iff.mp (List.all_eq_true.mp xpg_1 (12431, xm_78) (List.mem_of_getElem? (i := 18) rfl)); ⟨h.1, xok_78, fun i r e => by cases e; rfl, xwc_of h.2⟩
theorem xpm_79 : xPm xm_79 := have h := Bool.and_eq_true_iff.mp (List.all_eq_true.mp xpg_1 (12435, xm_79) (List.mem_of_getElem? (i := 19) rfl)); ⟨h.1, xok_79, fun i r e => by cases e; rfl, xwc_of h.2⟩
theorem xpm_80 : xPm xm_80 := have h := Bool.and_eq_true_iff.mp (List.all_eq_true.mp xpg_1 (12439, xm_80) (List.mem_of_getElem? (i := 20) rfl)); ⟨h.1, xok_80, fun i r e => by cases e; rfl, xwc_of h.2⟩
theorem xpm_81 : xPm xm_81 := have h := Bool.and_eq_true_iff.mp (List.all_eq_true.mp xpg_1 (12445, xm_81) (List.mem_of_getElem? (i := 21) rfl)); ⟨h.1, xok_81, fun i r e => by cases e; rfl, xwc_of h.2⟩
theorem xpm_82 : xPm xm_82 := have h := Bool.and_eq_true_iff.mp (List.all_eq_true.mp xpg_1 (12449, xm_82) (List.mem_of_getElem? (i := 22) rfl)); ⟨h.1, xok_82, fun i r e => by cases e; rfl, xwc_of h.2⟩
theorem xpm_83 : xPm xm_83 := have h := Bool.and_eq_true_iff.mp (List.all_eq_true.mp xpg_1 (12454, xm_83) (List.mem_of_getElem? (i := 23) rfl)); ⟨h.1, xok_83, fun i r e => by cases e; rfl, xwc_of h.2⟩
theorem xpm_84 : xPm xm_84 := have h := Bool.and_eq_true_iff.mp (List.all_eq_true.mp xpg_1 (12458, xm_84) (List.mem_of_getElem? (i := 24) rfl)); ⟨h.1, xok_84, fun i r e => by cases e; rfl, xwc_of h.2⟩
theorem xpm_85 : xPm xm_85 := have h := Bool.and_eq_true_iff.mp (List.all_eq_true.mp xpg_1 (12464, xm_85) (List.mem_of_getElem? (i := 25) rfl)); ⟨h.1, xok_85, fun i r e => by cases e; rfl, xwc_of h.2⟩
theorem xpm_86 : xPm xm_86 := have h := Bool.and_eq_true_iff.mp (List.all_eq_true.mp xpg_1 (12468, xm_86) (List.mem_of_getElem? (i := 26) rfl)); ⟨h.1, xok_86, fun i r e => by cases e; rfl, xwc_of h.2⟩
theorem xpm_87 : xPm xm_87 := have h := Bool.and_eq_true_iff.mp (List.all_eq_true.mp xpg_1 (12472, xm_87) (List.mem_of_getElem? (i := 27) rfl)); ⟨h.1, xok_87, fun i r e => by cases e; rfl, xwc_of h.2⟩
theorem xpm_88 : xPm xm_88 := have h := Bool.and_eq_true_iff.mp (List.all_eq_true.mp xpg_1 (12477, xm_88) (List.mem_of_getElem? (i := 28) rfl)); ⟨h.1, xok_88, fun i r e => by cases e; rfl, xwc_of h.2⟩
theorem xpm_89 : xPm xm_89 := have h := Bool.and_eq_true_iff.mp (List.all_eq_true.mp xpg_1 (12481, xm_89) (List.mem_of_getElem? (i := 29) rfl)); ⟨h.1, xok_89, fun i r e => by cases e; rfl, xwc_of h.2⟩
theorem xpm_90 : xPm xm_90 := have h := Bool.and_eq_true_iff.mp (List.all_eq_true.mp xpg_1 (12486, xm_90) (List.mem_of_getElem? (i := 30) rfl)); ⟨h.1, xok_90, fun i r e => by cases e; rfl, xwc_of h.2⟩
theorem xpm_91 : xPm xm_91 := have h := Bool.and_eq_true_iff.mp (List.all_eq_true.mp xpg_1 (12491, xm_91) (List.mem_of_getElem? (i := 31) rfl)); ⟨h.1, xok_91, fun i r e => by cases e; rfl, xwc_of h.2⟩
theorem xpm_92 : xPm xm_92 := have h := Bool.and_eq_true_iff.mp (List.all_eq_true.mp xpg_1 (12495, xm_92) (List.mem_of_getElem? (i := 32) rfl)); ⟨h.1, xok_92, fun i r e => by cases e; rfl, xwc_of h.2⟩
theorem xpm_93 : xPm xm_93 := have h := Bool.and_eq_true_iff.mp (List.all_eq_true.mp xpg_1 (12499, xm_93) (List.mem_of_getElem? (i := 33) rfl)); ⟨h.1, xok_93, fun i r e => by cases e; rfl, xwc_of h.2⟩
theorem xpm_94 : xPm xm_94 := have h := Bool.and_eq_true_iff.mp (List.all_eq_true.mp xpg_1 (12505, xm_94) (List.mem_of_getElem? (i := 34) rfl)); ⟨h.1, xok_94, fun i r e => by cases e; rfl, xwc_of h.2⟩
theorem xpm_95 : xPm xm_95 := have h := Bool.and_eq_true_iff.mp (List.all_eq_true.mp xpg_1 (12511, xm_95) (List.mem_of_getElem? (i := 35) rfl)); ⟨h.1, xok_95, fun i r e => by cases e; rfl, xwc_of h.2⟩
theorem xpm_96 : xPm xm_96 := have h := Bool.and_eq_true_iff.mp (List.all_eq_true.mp xpg_1 (12515, xm_96) (List.mem_of_getElem? (i := 36) rfl)); ⟨h.1, xok_96, fun i r e => by cases e; rfl, xwc_of h.2⟩
theorem xpm_97 : xPm xm_97 := have h := Bool.and_eq_true_iff.mp (List.all_eq_true.mp xpg_1 (12519, xm_97) (List.mem_of_getElem? (i := 37) rfl)); ⟨h.1, xok_97, fun i r e => by cases e; rfl, xwc_of h.2⟩
theorem xpm_98 : xPm xm_98 := have h := Bool.and_eq_true_iff.mp (List.all_eq_true.mp xpg_1 (12523, xm_98) (List.mem_of_getElem? (i := 38) rfl)); ⟨h.1, xok_98, fun i r e => by cases e; rfl, xwc_of h.2⟩
theorem xpm_99 : xPm xm_99 := have h := Bool.and_eq_true_iff.mp (List.all_eq_true.mp xpg_1 (12527, xm_99) (List.mem_of_getElem? (i := 39) rfl)); ⟨h.1, xok_99, fun i r e => by cases e; rfl, xwc_of h.2⟩
theorem xpm_100 : xPm xm_100 := have h := Bool.and_eq_true_iff.mp (List.all_eq_true.mp xpg_1 (13315, xm_100) (List.mem_of_getElem? (i := 40) rfl)); ⟨h.1, xok_100, fun i r e => by cases e; rfl, xwc_of h.2⟩
theorem xpm_101 : xPm xm_101 := have h := Bool.and_eq_true_iff.mp (List.all_eq_true.mp xpg_1 (13320, xm_101) (List.mem_of_getElem? (i := 41) rfl)); ⟨h.1, xok_101, fun i r e => by cases e; rfl, xwc_of h.2⟩
theorem xpm_102 : xPm xm_102 := have h := Bool.and_eq_true_iff.mp (List.all_eq_true.mp xpg_1 (13324, xm_102) (List.mem_of_getElem? (i := 42) rfl)); ⟨h.1, xok_102, fun i r e => by cases e; rfl, xwc_of h.2⟩
theorem xpm_103 : xPm xm_103 := have h := Bool.and_eq_true_iff.mp (List.all_eq_true.mp xpg_1 (13328, xm_103) (List.mem_of_getElem? (i := 43) rfl)); ⟨h.1, xok_103, fun i r e => by cases e; rfl, xwc_of h.2⟩
theorem xpm_104 : xPm xm_104 := have h := Bool.and_eq_true_iff.mp (List.all_eq_true.mp xpg_1 (13332, xm_104) (List.mem_of_getElem? (i := 44) rfl)); ⟨h.1, xok_104, fun i r e => by cases e; rfl, xwc_of h.2⟩
theorem xpm_105 : xPm xm_105 := have h := Bool.and_eq_true_iff.mp (List.all_eq_true.mp xpg_1 (13337, xm_105) (List.mem_of_getElem? (i := 45) rfl)); ⟨h.1, xok_105, fun i r e => by cases e; rfl, xwc_of h.2⟩
theorem xpm_106 : xPm xm_106 := have h := Bool.and_eq_true_iff.mp (List.all_eq_true.mp xpg_1 (13341, xm_106) (List.mem_of_getElem? (i := 46) rfl)); ⟨h.1, xok_106, fun i r e => by cases e; rfl, xwc_of h.2⟩
theorem xpm_107 : xPm xm_107 := have h := Bool.and_eq_true_iff.mp (List.all_eq_true.mp xpg_1 (13346, xm_107) (List.mem_of_getElem? (i := 47) rfl)); ⟨h.1, xok_107, fun i r e => by cases e; rfl, xwc_of h.2⟩
theorem xpm_108 : xPm xm_108 := have h := Bool.and_eq_true_iff.mp (List.all_eq_true.mp xpg_1 (13350, xm_108) (List.mem_of_getElem? (i := 48) rfl)); ⟨h.1, xok_108, fun i r e => by cases e; rfl, xwc_of h.2⟩
theorem xpm_109 : xPm xm_109 := have h := Bool.and_eq_true_iff.mp (List.all_eq_true.mp xpg_1 (13355, xm_109) (List.mem_of_getElem? (i := 49) rfl)); ⟨h.1, xok_109, fun i r e => by cases e; rfl, xwc_of h.2⟩
theorem xpm_110 : xPm xm_110 := have h := Bool.and_eq_true_iff.mp (List.all_eq_true.mp xpg_1 (13359, xm_110) (List.mem_of_getElem? (i := 50) rfl)); ⟨h.1, xok_110, fun i r e => by cases e; rfl, xwc_of h.2⟩
theorem xpm_111 : xPm xm_111 := have h := Bool.and_eq_true_iff.mp (List.all_eq_true.mp xpg_1 (13363, xm_111) (List.mem_of_getElem? (i := 51) rfl)); ⟨h.1, xok_111, fun i r e => by cases e; rfl, xwc_of h.2⟩
theorem xpm_112 : xPm xm_112 := have h := Bool.and_eq_true_iff.mp (List.all_eq_true.mp xpg_1 (13367, xm_112) (List.mem_of_getElem? (i := 52) rfl)); ⟨h.1, xok_112, fun i r e => by cases e; rfl, xwc_of h.2⟩
theorem xpm_113 : xPm xm_113 := have h := Bool.and_eq_true_iff.mp (List.all_eq_true.mp xpg_1 (13371, xm_113) (List.mem_of_getElem? (i := 53) rfl)); ⟨h.1, xok_113, fun i r e => by cases e; rfl, xwc_of h.2⟩
theorem xpm_114 : xPm xm_114 := have h := Bool.and_eq_true_iff.mp (List.all_eq_true.mp xpg_1 (13375, xm_114) (List.mem_of_getElem? (i := 54) rfl)); ⟨h.1, xok_114, fun i r e => by cases e; rfl, xwc_of h.2⟩
theorem xpm_115 : xPm xm_115 := have h := Bool.and_eq_true_iff.mp (List.all_eq_true.mp xpg_1 (13378, xm_115) (List.mem_of_getElem? (i := 55) rfl)); ⟨h.1, xok_115, fun i r e => by cases e; rfl, xwc_of h.2⟩
theorem xpm_116 : xPm xm_116 := have h := Bool.and_eq_true_iff.mp (List.all_eq_true.mp xpg_1 (13381, xm_116) (List.mem_of_getElem? (i := 56) rfl)); ⟨h.1, xok_116, fun i r e => by cases e; rfl, xwc_of h.2⟩
theorem xpm_117 : xPm xm_117 := have h := Bool.and_eq_true_iff.mp (List.all_eq_true.mp xpg_1 (13385, xm_117) (List.mem_of_getElem? (i := 57) rfl)); ⟨h.1, xok_117, fun i r e => by cases e; rfl, xwc_of h.2⟩
theorem xpm_118 : xPm xm_118 := have h := Bool.and_eq_true_iff.mp (List.all_eq_true.mp xpg_1 (13388, xm_118) (List.mem_of_getElem? (i := 58) rfl)); ⟨h.1, xok_118, fun i r e => by cases e; rfl, xwc_of h.2⟩
theorem xpm_119 : xPm xm_119 := have h := Bool.and_eq_true_iff.mp (List.all_eq_true.mp xpg_1 (13398, xm_119) (List.mem_of_getElem? (i := 59) rfl)); ⟨h.1, xok_119, fun i r e => by cases e; rfl, xwc_of h.2⟩
theorem xpm_120 : xPm xm_120 := have h := Bool.and_eq_true_iff.mp (List.all_eq_true.mp xpg_2 (13451, xm_120) (List.mem_of_getElem? (i := 0) rfl)); ⟨h.1, xok_120, fun i r e => by cases e; rfl, xwc_of h.2⟩
theorem xpm_121 : xPm xm_121 := have h := Bool.and_eq_true_iff.mp (List.all_eq_true.mp xpg_2 (13454, xm_121) (List.mem_of_getElem? (i := 1) rfl)); ⟨h.1, xok_121, fun i r e => by cases e; rfl, xwc_of h.2⟩
theorem xpm_122 : xPm xm_122 := have h := Bool.and_eq_true_iff.mp (List.all_eq_true.mp xpg_2 (13518, xm_122) (List.mem_of_getElem? (i := 2) rfl)); ⟨h.1, xok_122, fun i r e => by cases e; rfl, xwc_of h.2⟩
theorem xpm_123 : xPm xm_123 := have h := Bool.and_eq_true_iff.mp (List.all_eq_true.mp xpg_2 (13522, xm_123) (List.mem_of_getElem? (i := 3) rfl)); ⟨h.1, xok_123, fun i r e => by cases e; rfl, xwc_of h.2⟩
theorem xpm_124 : xPm xm_124 := have h := Bool.and_eq_true_iff.mp (List.all_eq_true.mp xpg_2 (13526, xm_124) (List.mem_of_getElem? (i := 4) rfl)); ⟨h.1, xok_124, fun i r e => by cases e; rfl, xwc_of h.2⟩
theorem xpm_125 : xPm xm_125 := have h := Bool.and_eq_true_iff.mp (List.all_eq_true.mp xpg_2 (13530, xm_125) (List.mem_of_getElem? (i := 5) rfl)); ⟨h.1, xok_125, fun i r e => by cases e; rfl, xwc_of h.2⟩
theorem xpm_126 : xPm xm_126 := have h := Bool.and_eq_true_iff.mp (List.all_eq_true.mp xpg_2 (13534, xm_126) (List.mem_of_getElem? (i := 6) rfl)); ⟨h.1, xok_126, fun i r e => by cases e; rfl, xwc_of h.2⟩
theorem xpm_127 : xPm xm_127 := have h := Bool.and_eq_true_iff.mp (List.all_eq_true.mp xpg_2 (13538, xm_127) (List.mem_of_getElem? (i := 7) rfl)); ⟨h.1, xok_127, fun i r e => by cases e; rfl, xwc_of h.2⟩
theorem xpm_128 : xPm xm_128 := have h := Bool.and_eq_true_iff.mp (List.all_eq_true.mp xpg_2 (13542, xm_128) (List.mem_of_getElem? (i := 8) rfl)); ⟨h.1, xok_128, fun i r e => by cases e; rfl, xwc_of h.2⟩
theorem xpm_129 : xPm xm_129 := have h := Bool.and_eq_true_iff.mp (List.all_eq_true.mp xpg_2 (13545, xm_129) (List.mem_of_getElem? (i := 9) rfl)); ⟨h.1, xok_129, fun i r e => by cases e; rfl, xwc_of h.2⟩
theorem xpm_130 : xPm xm_130 := have h := Bool.and_eq_true_iff.mp (List.all_eq_true.mp xpg_2 (13548, xm_130) (List.mem_of_getElem? (i := 10) rfl)); ⟨h.1, xok_130, fun i r e => by cases e; rfl, xwc_of h.2⟩
theorem xpm_131 : xPm xm_131 := have h := Bool.and_eq_true_iff.mp (List.all_eq_true.mp xpg_2 (14337, xm_131) (List.mem_of_getElem? (i := 11) rfl)); ⟨h.1, xok_131, fun i r e => by cases e; rfl, xwc_of h.2⟩
theorem xpm_132 : xPm xm_132 := have h := Bool.and_eq_true_iff.mp (List.all_eq_true.mp xpg_2 (14344, xm_132) (List.mem_of_getElem? (i := 12) rfl)); ⟨h.1, xok_132, fun i r e => by cases e; rfl, xwc_of h.2⟩
theorem xpm_133 : xPm xm_133 := have h := Bool.and_eq_true_iff.mp (List.all_eq_true.mp xpg_2 (14348, xm_133) (List.mem_of_getElem? (i := 13) rfl)); ⟨h.1, xok_133, fun i r e => by cases e; rfl, xwc_of h.2⟩
theorem xpm_134 : xPm xm_134 := have h := Bool.and_eq_true_iff.mp (List.all_eq_true.mp xpg_2 (14353, xm_134) (List.mem_of_getElem? (i := 14) rfl)); ⟨h.1, xok_134, fun i r e => by cases e; rfl, xwc_of h.2⟩
theorem xpm_135 : xPm xm_135 := have h := Bool.and_eq_true_iff.mp (List.all_eq_true.mp xpg_2 (14357, xm_135) (List.mem_of_getElem? (i := 15) rfl)); ⟨h.1, xok_135, fun i r e => by cases e; rfl, xwc_of h.2⟩
theorem xpm_136 : xPm xm_136 := have h := Bool.and_eq_true_iff.mp (List.all_eq_true.mp xpg_2 (14362, xm_136) (List.mem_of_getElem? (i := 16) rfl)); ⟨h.1, xok_136, fun i r e => by cases e; rfl, xwc_of h.2⟩
theorem xpm_137 : xPm xm_137 := have h := Bool.and_eq_true_iff.mp (List.all_eq_true.mp xpg_2 (14366, xm_137) (List.mem_of_getElem? (i := 17) rfl)); ⟨h.1, xok_137, fun i r e => by cases e; rfl, xwc_of h.2⟩
theorem xpm_138 : xPm xm_138 := have h := Bool.and_eq_true_iff.mp (List.all_eq_true.mp xpg_2 (14370, xm_138) (List.mem_of_getElem? (i := 18) rfl)); ⟨h.1, xok_138, fun i r e => by cases e; rfl, xwc_of h.2⟩
theorem xpm_139 : xPm xm_139 := have h := Bool.and_eq_true_iff.mp (List.all_eq_true.mp xpg_2 (14374, xm_139) (List.mem_of_getElem? (i := 19) rfl)); ⟨h.1, xok_139, fun i r e => by cases e; rfl, xwc_of h.2⟩
theorem xpm_140 : xPm xm_140 := have h := Bool.and_eq_true_iff.mp (List.all_eq_true.mp xpg_2 (14378, xm_140) (List.mem_of_getElem? (i := 20) rfl)); ⟨h.1, xok_140, fun i r e => by cases e; rfl, xwc_of h.2⟩
theorem xpm_141 : xPm xm_141 := have h := Bool.and_eq_true_iff.mp (List.all_eq_true.mp xpg_2 (14383, xm_141) (List.mem_of_getElem? (i := 21) rfl)); ⟨h.1, xok_141, fun i r e => by cases e; rfl, xwc_of h.2⟩
theorem xpm_142 : xPm xm_142 := have h := Bool.and_eq_true_iff.mp (List.all_eq_true.mp xpg_2 (14390, xm_142) (List.mem_of_getElem? (i := 22) rfl)); ⟨h.1, xok_142, fun i r e => by cases e; rfl, xwc_of h.2⟩
theorem xpm_143 : xPm xm_143 := have h := Bool.and_eq_true_iff.mp (List.all_eq_true.mp xpg_2 (14395, xm_143) (List.mem_of_getElem? (i := 23) rfl)); ⟨h.1, xok_143, fun i r e => by cases e; rfl, xwc_of h.2⟩
theorem xpm_144 : xPm xm_144 := have h := Bool.and_eq_true_iff.mp (List.all_eq_true.mp xpg_2 (14399, xm_144) (List.mem_of_getElem? (i := 24) rfl)); ⟨h.1, xok_144, fun i r e => by cases e; rfl, xwc_of h.2⟩
theorem xpm_145 : xPm xm_145 := have h := Bool.and_eq_true_iff.mp (List.all_eq_true.mp xpg_2 (14404, xm_145) (List.mem_of_getElem? (i := 25) rfl)); ⟨h.1, xok_145, fun i r e => by cases e; rfl, xwc_of h.2⟩
theorem xpm_146 : xPm xm_146 := have h := Bool.and_eq_true_iff.mp (List.all_eq_true.mp xpg_2 (14408, xm_146) (List.mem_of_getElem? (i := 26) rfl)); ⟨h.1, xok_146, fun i r e => by cases e; rfl, xwc_of h.2⟩
theorem xpm_147 : xPm xm_147 := have h := Bool.and_eq_true_iff.mp (List.all_eq_true.mp xpg_2 (14412, xm_147) (List.mem_of_getElem? (i := 27) rfl)); ⟨h.1, xok_147, fun i r e => by cases e; rfl, xwc_of h.2⟩
theorem xpm_148 : xPm xm_148 := have h := Bool.and_eq_true_iff.mp (List.all_eq_true.mp xpg_2 (14418, xm_148) (List.mem_of_getElem? (i := 28) rfl)); ⟨h.1, xok_148, fun i r e => by cases e; rfl, xwc_of h.2⟩
theorem xpm_149 : xPm xm_149 := have h := Bool.and_eq_true_iff.mp (List.all_eq_true.mp xpg_2 (14422, xm_149) (List.mem_of_getElem? (i := 29) rfl)); ⟨h.1, xok_149, fun i r e => by cases e; rfl, xwc_of h.2⟩
theorem xpm_150 : xPm xm_150 := have h := Bool.and_eq_true_iff.mp (List.all_eq_true.mp xpg_2 (14426, xm_150) (List.mem_of_getElem? (i := 30) rfl)); ⟨h.1, xok_150, fun i r e => by cases e; rfl, xwc_of h.2⟩
theorem xpm_151 : xPm xm_151 := have h := Bool.and_eq_true_iff.mp (List.all_eq_true.mp xpg_2 (14431, xm_151) (List.mem_of_getElem? (i := 31) rfl)); ⟨h.1, xok_151, fun i r e => by cases e; rfl, xwc_of h.2⟩
theorem xpm_152 : xPm xm_152 := have h := Bool.and_eq_true_iff.mp (List.all_eq_true.mp xpg_2 (14436, xm_152) (List.mem_of_getElem? (i := 32) rfl)); ⟨h.1, xok_152, fun i r e => by cases e; rfl, xwc_of h.2⟩
theorem xpm_153 : xPm xm_153 := have h := Bool.and_eq_true_iff.mp (List.all_eq_true.mp xpg_2 (14440, xm_153) (List.mem_of_getElem? (i := 33) rfl)); ⟨h.1, xok_153, fun i r e => by cases e; rfl, xwc_of h.2⟩
theorem xpm_154 : xPm xm_154 := have h := Bool.and_eq_true_iff.mp (List.all_eq_true.mp xpg_2 (14444, xm_154) (List.mem_of_getElem? (i := 34) rfl)); ⟨h.1, xok_154, fun i r e => by cases e; rfl, xwc_of h.2⟩
theorem xpm_155 : xPm xm_155 := have h := Bool.and_eq_true_iff.mp (List.all_eq_true.mp xpg_2 (14448, xm_155) (List.mem_of_getElem? (i := 35) rfl)); ⟨h.1, xok_155, fun i r e => by cases e; rfl, xwc_of h.2⟩
theorem xpm_156 : xPm xm_156 := have h := Bool.and_eq_true_iff.mp (List.all_eq_true.mp xpg_2 (14454, xm_156) (List.mem_of_getElem? (i := 36) rfl)); ⟨h.1, xok_156, fun i r e => by cases e; rfl, xwc_of h.2⟩
theorem xpm_157 : xPm xm_157 := have h := Bool.and_eq_true_iff.mp (List.all_eq_true.mp xpg_2 (14459, xm_157) (List.mem_of_getElem? (i := 37) rfl)); ⟨h.1, xok_157, fun i r e => by cases e; rfl, xwc_of h.2⟩
theorem xpm_158 : xPm xm_158 := have h := Bool.and_eq_true_iff.mp (List.all_eq_true.mp xpg_2 (14464, xm_158) (List.mem_of_getElem? (i := 38) rfl)); ⟨h.1, xok_158, fun i r e => by cases e; rfl, xwc_of h.2⟩
theorem xpm_159 : xPm xm_159 := have h := Bool.and_eq_true_iff.mp (List.all_eq_true.mp xpg_2 (14468, xm_159) (List.mem_of_getElem? (i := 39) rfl)); ⟨h.1, xok_159, fun i r e => by cases e; rfl, xwc_of h.2⟩
theorem xpm_160 : xPm xm_160 := have h := Bool.and_eq_true_iff.mp (List.all_eq_true.mp xpg_2 (14473, xm_160) (List.mem_of_getElem? (i := 40) rfl)); ⟨h.1, xok_160, fun i r e => by cases e; rfl, xwc_of h.2⟩
theorem xpm_161 : xPm xm_161 := have h := Bool.and_eq_true_iff.mp (List.all_eq_true.mp xpg_2 (14484, xm_161) (List.mem_of_getElem? (i := 41) rfl)); ⟨h.1, xok_161, fun i r e => by cases e; rfl, xwc_of h.2⟩
theorem xpm_162 : xPm xm_162 := have h := Bool.and_eq_true_iff.mp (List.all_eq_true.mp xpg_2 (14488, xm_162) (List.mem_of_getElem? (i := 42) rfl)); ⟨h.1, xok_162, fun i r e => by cases e; rfl, xwc_of h.2⟩
theorem xpm_163 : xPm xm_163 := have h := Bool.and_eq_true_iff.mp (List.all_eq_true.mp xpg_2 (14492, xm_163) (List.mem_of_getElem? (i := 43) rfl)); ⟨h.1, xok_163, fun i r e => by cases e; rfl, xwc_of h.2⟩
theorem xpm_164 : xPm xm_164 := have h := Bool.and_eq_true_iff.mp (List.all_eq_true.mp xpg_2 (14496, xm_164) (List.mem_of_getElem? (i := 44) rfl)); ⟨h.1, xok_164, fun i r e => by cases e; rfl, xwc_of h.2⟩
theorem xpm_165 : xPm xm_165 := have h := Bool.and_eq_true_iff.mp (List.all_eq_true.mp xpg_2 (14499, xm_165) (List.mem_of_getElem? (i := 45) rfl)); ⟨h.1, xok_165, fun i r e => by cases e; rfl, xwc_of h.2⟩
theorem xpm_166 : xPm xm_166 := have h := Bool.and_eq_true_iff.mp (List.all_eq_true.mp xpg_2 (14503, xm_166) (List.mem_of_getElem? (i := 46) rfl)); ⟨h.1, xok_166, fun i r e => by cases e; rfl, xwc_of h.2⟩
theorem xpm_167 : xPm xm_167 := have h := Bool.and_eq_true_iff.mp (List.all_eq_true.mp xpg_2 (14507, xm_167) (List.mem_of_getElem? (i := 47) rfl)); ⟨h.1, xok_167, fun i r e => by cases e; rfl, xwc_of h.2⟩
theorem xpm_168 : xPm xm_168 := have h := Bool.and_eq_true_iff.mp (List.all_eq_true.mp xpg_2 (14511, xm_168) (List.mem_of_getElem? (i := 48) rfl)); ⟨h.1, xok_168, fun i r e => by cases e; rfl, xwc_of h.2⟩
theorem xpm_169 : xPm xm_169 := have h := Bool.and_eq_true_iff.mp (List.all_eq_true.mp xpg_2 (14516, xm_169) (List.mem_of_getElem? (i := 49) rfl)); ⟨h.1, xok_169, fun i r e => by cases e; rfl, xwc_of h.2⟩
theorem xpm_170 : xPm xm_170 := have h := Bool.and_eq_true_iff.mp (List.all_eq_true.mp xpg_2 (14520, xm_170) (List.mem_of_getElem? (i := 50) rfl)); ⟨h.1, xok_170, fun i r e => by cases e; rfl, xwc_of h.2⟩
theorem xpm_171 : xPm xm_171 := have h := Bool.and_eq_true_iff.mp (List.all_eq_true.mp xpg_2 (14524, xm_171) (List.mem_of_getElem? (i := 51) rfl)); ⟨h.1, xok_171, fun i r e => by cases e; rfl, xwc_of h.2⟩
theorem xpm_172 : xPm xm_172 := have h := Bool.and_eq_true_iff.mp (List.all_eq_true.mp xpg_2 (14528, xm_172) (List.mem_of_getElem? (i := 52) rfl)); ⟨h.1, xok_172, fun i r e => by cases e; rfl, xwc_of h.2⟩
theorem xpm_173 : xPm xm_173 := have h := Bool.and_eq_true_iff.mp (List.all_eq_true.mp xpg_2 (14538, xm_173) (List.mem_of_getElem? (i := 53) rfl)); ⟨h.1, xok_173, fun i r e => by cases e; rfl, xwc_of h.2⟩
theorem xpm_174 : xPm xm_174 := have h := Bool.and_eq_true_iff.mp (List.all_eq_true.mp xpg_2 (14542, xm_174) (List.mem_of_getElem? (i := 54) rfl)); ⟨h.1, xok_174, fun i r e => by cases e; rfl, xwc_of h.2⟩
theorem xpm_175 : xPm xm_175 := have h := Bool.and_eq_true_iff.mp (List.all_eq_true.mp xpg_2 (14549, xm_175) (List.mem_of_getElem? (i := 55) rfl)); ⟨h.1, xok_175, fun i r e => by cases e; rfl, xwc_of h.2⟩
theorem xpm_176 : xPm xm_176 := have h := Bool.and_eq_true_iff.mp (List.all_eq_true.mp xpg_2 (14554, xm_176) (List.mem_of_getElem? (i := 56) rfl)); ⟨h.1, xok_176, fun i r e => by cases e; rfl, xwc_of h.2⟩
theorem xpm_177 : xPm xm_177 := have h := Bool.and_eq_true_iff.mp (List.all_eq_true.mp xpg_2 (14558, xm_177) (List.mem_of_getElem? (i := 57) rfl)); ⟨h.1, xok_177, fun i r e => by cases e; rfl, xwc_of h.2⟩
theorem xpm_178 : xPm xm_178 := have h := Bool.and_eq_true_iff.mp (List.all_eq_true.mp xpg_2 (14562, xm_178) (List.mem_of_getElem? (i := 58) rfl)); ⟨h.1, xok_178, fun i r e => by cases e; rfl, xwc_of h.2⟩
theorem xpm_179 : xPm xm_179 := have h := Bool.and_eq_true_iff.mp (List.all_eq_true.mp xpg_2 (14567, xm_179) (List.mem_of_getElem? (i := 59) rfl)); ⟨h.1, xok_179, fun i r e => by cases e; rfl, xwc_of h.2⟩
theorem xpm_180 : xPm xm_180 := have h := Bool.and_eq_true_iff.mp (List.all_eq_true.mp xpg_3 (14572, xm_180) (List.mem_of_getElem? (i := 0) rfl)); ⟨h.1, xok_180, fun i r e => by cases e; rfl, xwc_of h.2⟩
theorem xpm_181 : xPm xm_181 := have h := Bool.and_eq_true_iff.mp (List.all_eq_true.mp xpg_3 (15360, xm_181) (List.mem_of_getElem? (i := 1) rfl)); ⟨h.1, xok_181, fun i r e => by cases e; rfl, xwc_of h.2⟩
theorem xpm_182 : xPm xm_182 := have h := Bool.and_eq_true_iff.mp (List.all_eq_true.mp xpg_3 (15365, xm_182) (List.mem_of_getElem? (i := 2) rfl)); ⟨h.1, xok_182, fun i r e => by cases e; rfl, xwc_of h.2⟩
theorem xpm_183 : xPm xm_183 := have h := Bool.and_eq_true_iff.mp (List.all_eq_true.mp xpg_3 (15369, xm_183) (List.mem_of_getElem? (i := 3) rfl)); ⟨h.1, xok_183, fun i r e => by cases e; rfl, xwc_of h.2⟩
theorem xpm_184 : xPm xm_184 := have h := Bool.and_eq_true_iff.mp (List.all_eq_true.mp xpg_3 (15373, xm_184) (List.mem_of_getElem? (i := 4) rfl)); ⟨h.1, xok_184, fun i r e => by cases e; rfl, xwc_of h.2⟩
theorem xpm_185 : xPm xm_185 := have h := Bool.and_eq_true_iff.mp (List.all_eq_true.mp xpg_3 (15377, xm_185) (List.mem_of_getElem? (i := 5) rfl)); ⟨h.1, xok_185, fun i r e => by cases e; rfl, xwc_of h.2⟩
theorem xpm_186 : xPm xm_186 := have h := Bool.and_eq_true_iff.mp (List.all_eq_true.mp xpg_3 (15381, xm_186) (List.mem_of_getElem? (i := 6) rfl)); ⟨h.1, xok_186, fun i r e => by cases e; rfl, xwc_of h.2⟩
theorem xpm_187 : xPm xm_187 := have h := Bool.and_eq_true_iff.mp (List.all_eq_true.mp xpg_3 (15385, xm_187) (List.mem_of_getElem? (i := 7) rfl)); ⟨h.1, xok_187, fun i r e => by cases e; rfl, xwc_of h.2⟩
theorem xpm_188 : xPm xm_188 := have h := Bool.and_eq_true_iff.mp (List.all_eq_true.mp xpg_3 (15389, xm_188) (List.mem_of_getElem? (i := 8) rfl)); ⟨h.1, xok_188, fun i r e => by cases e; rfl, xwc_of h.2⟩
theorem xpm_189 : xPm xm_189 := have h := Bool.and_eq_true_iff.mp (List.all_eq_true.mp xpg_3 (15393, xm_189) (List.mem_of_getElem? (i := 9) rfl)); ⟨h.1, xok_189, fun i r e => by cases e; rfl, xwc_of h.2⟩
theorem xpm_190 : xPm xm_190 := have h := Bool.and_eq_true_iff.mp (List.all_eq_true.mp xpg_3 (15397, xm_190) (List.mem_of_getElem? (i := 10) rfl)); ⟨h.1, xok_190, fun i r e => by cases e; rfl, xwc_of h.2⟩
theorem xpm_191 : xPm xm_191 := have h := Bool.and_eq_true_iff.mp (List.all_eq_true.mp xpg_3 (15402, xm_191) (List.mem_of_getElem? (i := 11) rfl)); ⟨h.1, xok_191, fun i r e => by cases e; rfl, xwc_of h.2⟩
theorem xpm_192 : xPm xm_192 := have h := Bool.and_eq_true_iff.mp (List.all_eq_true.mp xpg_3 (15406, xm_192) (List.mem_of_getElem? (i := 12) rfl)); ⟨h.1, xok_192, fun i r e => by cases e; rfl, xwc_of h.2⟩
theorem xpm_193 : xPm xm_193 := have h := Bool.and_eq_true_iff.mp (List.all_eq_true.mp xpg_3 (15411, xm_193) (List.mem_of_getElem? (i := 13) rfl)); ⟨h.1, xok_193, fun i r e => by cases e; rfl, xwc_of h.2⟩
theorem xpm_194 : xPm xm_194 := have h := Bool.and_eq_true_iff.mp (List.all_eq_true.mp xpg_3 (15415, xm_194) (List.mem_of_getElem? (i := 14) rfl)); ⟨h.1, xok_194, fun i r e => by cases e; rfl, xwc_of h.2⟩
theorem xpm_195 : xPm xm_195 := have h := Bool.and_eq_true_iff.mp (List.all_eq_true.mp xpg_3 (15419, xm_195) (List.mem_of_getElem? (i := 15) rfl)); ⟨h.1, xok_195, fun i r e => by cases e; rfl, xwc_of h.2⟩
theorem xpm_196 : xPm xm_196 := have h := Bool.and_eq_true_iff.mp (List.all_eq_true.mp xpg_3 (15424, xm_196) (List.mem_of_getElem? (i := 16) rfl)); ⟨h.1, xok_196, fun i r e => by cases e; rfl, xwc_of h.2⟩
theorem xpm_197 : xPm xm_197 := have h := Bool.and_eq_true_iff.mp (List.all_eq_true.mp xpg_3 (15428, xm_197) (List.mem_of_getElem? (i := 17) rfl)); ⟨h.1, xok_197, fun i r e => by cases e; rfl, xwc_of h.2⟩
theorem xpm_198 : xPm xm_198 := have h := Bool.and_eq_true_iff.mp (List.all_eq_true.mp xpg_3 (15436, xm_198) (List.mem_of_getElem? (i := 18) rfl)); ⟨h.1, xok_198, fun i r e => by cases e; rfl, xwc_of h.2⟩
theorem xpm_199 : xPm xm_199 := have h := Bool.and_eq_true_iff.mp (List.all_eq_true.mp xpg_3 (15440, xm_199) (List.mem_of_getElem? (i := 19) rfl)); ⟨h.1, xok_199, fun i r e => by cases e; rfl, xwc_of h.2⟩
theorem xpm_200 : xPm xm_200 := have h := Bool.and_eq_true_iff.mp (List.all_eq_true.mp xpg_3 (15444, xm_200) (List.mem_of_getElem? (i := 20) rfl)); ⟨h.1, xok_200, fun i r e => by cases e; rfl, xwc_of h.2⟩
theorem xpm_201 : xPm xm_201 := have h := Bool.and_eq_true_iff.mp (List.all_eq_true.mp xpg_3 (15449, xm_201) (List.mem_of_getElem? (i := 21) rfl)); ⟨h.1, xok_201, fun i r e => by cases e; rfl, xwc_of h.2⟩
theorem xpm_202 : xPm xm_202 := have h := Bool.and_eq_true_iff.mp (List.all_eq_true.mp xpg_3 (15453, xm_202) (List.mem_of_getElem? (i := 22) rfl)); ⟨h.1, xok_202, fun i r e => by cases e; rfl, xwc_of h.2⟩
theorem xpm_203 : xPm xm_203 := have h := Bool.and_eq_true_iff.mp (List.all_eq_true.mp xpg_3 (15457, xm_203) (List.mem_of_getElem? (i := 23) rfl)); ⟨h.1, xok_203, fun i r e => by cases e; rfl, xwc_of h.2⟩
theorem xpm_204 : xPm xm_204 := have h := Bool.and_eq_true_iff.mp (List.all_eq_true.mp xpg_3 (15461, xm_204) (List.mem_of_getElem? (i := 24) rfl)); ⟨h.1, xok_204, fun i r e => by cases e; rfl, xwc_of h.2⟩
theorem xpm_205 : xPm xm_205 := have h := Bool.and_eq_true_iff.mp (List.all_eq_true.mp xpg_3 (15465, xm_205) (List.mem_of_getElem? (i := 25) rfl)); ⟨h.1, xok_205, fun i r e => by cases e; rfl, xwc_of h.2⟩
theorem xpm_206 : xPm xm_206 := have h := Bool.and_eq_true_iff.mp (List.all_eq_true.mp xpg_3 (15469, xm_206) (List.mem_of_getElem? (i := 26) rfl)); ⟨h.1, xok_206, fun i r e => by cases e; rfl, xwc_of h.2⟩
theorem xpm_207 : xPm xm_207 := have h := Bool.and_eq_true_iff.mp (List.all_eq_true.mp xpg_3 (15474, xm_207) (List.mem_of_getElem? (i := 27) rfl)); ⟨h.1, xok_207, fun i r e => by cases e; rfl, xwc_of h.2⟩
theorem xpm_208 : xPm xm_208 := have h := Bool.and_eq_true_iff.mp (List.all_eq_true.mp xpg_3 (15474, xm_208) (List.mem_of_getElem? (i := 28) rfl)); ⟨h.1, xok_208, fun i r e => by cases e; rfl, xwc_of h.2⟩
theorem xpm_209 : xPm xm_209 := have h := Bool.and_eq_true_iff.mp (List.all_eq_true.mp xpg_3 (15474, xm_209) (List.mem_of_getElem? (i := 29) rfl)); ⟨h.1, xok_209, fun i r e => by cases e; rfl, xwc_of h.2⟩
theorem xpm_210 : xPm xm_210 := have h := Bool.and_eq_true_iff.mp (List.all_eq_true.mp xpg_3 (15474, xm_210) (List.mem_of_getElem? (i := 30) rfl)); ⟨h.1, xok_210, fun i r e => by cases e; rfl, xwc_of h.2⟩
theorem xpm_211 : xPm xm_211 := have h := Bool.and_eq_true_iff.mp (List.all_eq_true.mp xpg_3 (15474, xm_211) (List.mem_of_getElem? (i := 31) rfl)); ⟨h.1, xok_211, fun i r e => by cases e; rfl, xwc_of h.2⟩
theorem xpm_212 : xPm xm_212 := have h := Bool.and_eq_true_iff.mp (List.all_eq_true.mp xpg_3 (15474, xm_212) (List.mem_of_getElem? (i := 32) rfl)); ⟨h.1, xok_212, fun i r e => by cases e; rfl, xwc_of h.2⟩
theorem xpm_213 : xPm xm_213 := have h := Bool.and_eq_true_iff.mp (List.all_eq_true.mp xpg_3 (15474, xm_213) (List.mem_of_getElem? (i := 33) rfl)); ⟨h.1, xok_213, fun i r e => by cases e; rfl, xwc_of h.2⟩
theorem xpm_214 : xPm xm_214 := have h := Bool.and_eq_true_iff.mp (List.all_eq_true.mp xpg_3 (15474, xm_214) (List.mem_of_getElem? (i := 34) rfl)); ⟨h.1, xok_214, fun i r e => by cases e; rfl, xwc_of h.2⟩
theorem xpm_215 : xPm xm_215 := have h := Bool.and_eq_true_iff.mp (List.all_eq_true.mp xpg_3 (15478, xm_215) (List.mem_of_getElem? (i := 35) rfl)); ⟨h.1, xok_215, fun i r e => by cases e; rfl, xwc_of h.2⟩
theorem xpm_216 : xPm xm_216 := have h := Bool.and_eq_true_iff.mp (List.all_eq_true.mp xpg_3 (15485, xm_216) (List.mem_of_getElem? (i := 36) rfl)); ⟨h.1, xok_216, fun i r e => by cases e; rfl, xwc_of h.2⟩
theorem xpm_217 : xPm xm_217 := have h := Bool.and_eq_true_iff.mp (List.all_eq_true.mp xpg_3 (15489, xm_217) (List.mem_of_getElem? (i := 37) rfl)); ⟨h.1, xok_217, fun i r e => by cases e; rfl, xwc_of h.2⟩
theorem xpm_218 : xPm xm_218 := have h := Bool.and_eq_true_iff.mp (List.all_eq_true.mp xpg_3 (15493, xm_218) (List.mem_of_getElem? (i := 38) rfl)); ⟨h.1, xok_218, fun i r e => by cases e; rfl, xwc_of h.2⟩
theorem xpm_219 : xPm xm_219 := have h := Bool.and_eq_true_iff.mp (List.all_eq_true.mp xpg_3 (15497, xm_219) (List.mem_of_getElem? (i := 39) rfl)); ⟨h.1, xok_219, fun i r e => by cases e; rfl, xwc_of h.2⟩
theorem xpm_220 : xPm xm_220 := have h := Bool.and_eq_true_iff.mp (List.all_eq_true.mp xpg_3 (15501, xm_220) (List.mem_of_getElem? (i := 40) rfl)); ⟨h.1, xok_220, fun i r e => by cases e; rfl, xwc_of h.2⟩
theorem xpm_221 : xPm xm_221 := have h := Bool.and_eq_true_iff.mp (List.all_eq_true.mp xpg_3 (15505, xm_221) (List.mem_of_getElem? (i := 41) rfl)); ⟨h.1, xok_221, fun i r e => by cases e; rfl, xwc_of h.2⟩
theorem xpm_222 : xPm xm_222 := have h := Bool.and_eq_true_iff.mp (List.all_eq_true.mp xpg_3 (15509, xm_222) (List.mem_of_getElem? (i := 42) rfl)); ⟨h.1, xok_222, fun i r e => by cases e; rfl, xwc_of h.2⟩
theorem xpm_223 : xPm xm_223 := have h := Bool.and_eq_true_iff.mp (List.all_eq_true.mp xpg_3 (15513, xm_223) (List.mem_of_getElem? (i := 43) rfl)); ⟨h.1, xok_223, fun i r e => by cases e; rfl, xwc_of h.2⟩
theorem xpm_224 : xPm xm_224 := have h := Bool.and_eq_true_iff.mp (List.all_eq_true.mp xpg_3 (15517, xm_224) (List.mem_of_getElem? (i := 44) rfl)); ⟨h.1, xok_224, fun i r e => by cases e; rfl, xwc_of h.2⟩
theorem xpm_225 : xPm xm_225 := have h := Bool.and_eq_true_iff.mp (List.all_eq_true.mp xpg_3 (15520, xm_225) (List.mem_of_getElem? (i := 45) rfl)); ⟨h.1, xok_225, fun i r e => by cases e; rfl, xwc_of h.2⟩
theorem xpm_226 : xPm xm_226 := have h := Bool.and_eq_true_iff.mp (List.all_eq_true.mp xpg_3 (15525, xm_226) (List.mem_of_getElem? (i := 46) rfl)); ⟨h.1, xok_226, fun i r e => by cases e; rfl, xwc_of h.2⟩
theorem xpm_227 : xPm xm_227 := have h := Bool.and_eq_true_iff.mp (List.all_eq_true.mp xpg_3 (15530, xm_227) (List.mem_of_getElem? (i := 47) rfl)); ⟨h.1, xok_227, fun i r e => by cases e; rfl, xwc_of h.2⟩
theorem xpm_228 : xPm xm_228 := have h := Bool.and_eq_true_iff.mp (List.all_eq_true.mp xpg_3 (15537, xm_228) (List.mem_of_getElem? (i := 48) rfl)); ⟨h.1, xok_228, fun i r e => by cases e; rfl, xwc_of h.2⟩
theorem xpm_229 : xPm xm_229 := have h := Bool.and_eq_true_iff.mp (List.all_eq_true.mp xpg_3 (15541, xm_229) (List.mem_of_getElem? (i := 49) rfl)); ⟨h.1, xok_229, fun i r e => by cases e; rfl, xwc_of h.2⟩
theorem xpm_230 : xPm xm_230 := have h := Bool.and_eq_true_iff.mp (List.all_eq_true.mp xpg_3 (15545, xm_230) (List.mem_of_getElem? (i := 50) rfl)); ⟨h.1, xok_230, fun i r e => by cases e; rfl, xwc_of h.2⟩
theorem xpm_231 : xPm xm_231 := have h := Bool.and_eq_true_iff.mp (List.all_eq_true.mp xpg_3 (15550, xm_231) (List.mem_of_getElem? (i := 51) rfl)); ⟨h.1, xok_231, fun i r e => by cases e; rfl, xwc_of h.2⟩
theorem xpm_232 : xPm xm_232 := have h := Bool.and_eq_true_iff.mp (List.all_eq_true.mp xpg_3 (15556, xm_232) (List.mem_of_getElem? (i := 52) rfl)); ⟨h.1, xok_232, fun i r e => by cases e; rfl, xwc_of h.2⟩
theorem xpm_233 : xPm xm_233 := have h := Bool.and_eq_true_iff.mp (List.all_eq_true.mp xpg_3 (15560, xm_233) (List.mem_of_getElem? (i := 53) rfl)); ⟨h.1, xok_233, fun i r e => by cases e; rfl, xwc_of h.2⟩
theorem xpm_234 : xPm xm_234 := have h := Bool.and_eq_true_iff.mp (List.all_eq_true.mp xpg_3 (15564, xm_234) (List.mem_of_getElem? (i := 54) rfl)); ⟨h.1, xok_234, fun i r e => by cases e; rfl, xwc_of h.2⟩
theorem xpm_235 : xPm xm_235 := have h := Bool.and_eq_true_iff.mp (List.all_eq_true.mp xpg_3 (15569, xm_235) (List.mem_of_getElem? (i := 55) rfl)); ⟨h.1, xok_235, fun i r e => by cases e; rfl, xwc_of h.2⟩
theorem xpm_236 : xPm xm_236 := have h := Bool.and_eq_true_iff.mp (List.all_eq_true.mp xpg_3 (15574, xm_236) (List.mem_of_getElem? (i := 56) rfl)); ⟨h.1, xok_236, fun i r e => by cases e; rfl, xwc_of h.2⟩
theorem xpm_237 : xPm xm_237 := have h := Bool.and_eq_true_iff.mp (List.all_eq_true.mp xpg_3 (16484, xm_237) (List.mem_of_getElem? (i := 57) rfl)); ⟨h.1, xok_237, fun i r e => by cases e; rfl, xwc_of h.2⟩
theorem xpm_238 : xPm xm_238 := have h := Bool.and_eq_true_iff.mp (List.all_eq_true.mp xpg_3 (16488, xm_238) (List.mem_of_getElem? (i := 58) rfl)); ⟨h.1, xok_238, fun i r e => by cases e; rfl, xwc_of h.2⟩
theorem xpm_239 : xPm xm_239 := have h := Bool.and_eq_true_iff.mp (List.all_eq_true.mp xpg_3 (16494, xm_239) (List.mem_of_getElem? (i := 59) rfl)); ⟨h.1, xok_239, fun i r e => by cases e; rfl, xwc_of h.2⟩
theorem xpm_240 : xPm xm_240 := have h := Bool.and_eq_true_iff.mp (List.all_eq_true.mp xpg_4 (16498, xm_240) (List.mem_of_getElem? (i := 0) rfl)); ⟨h.1, xok_240, fun i r e => by cases e; rfl, xwc_of h.2⟩
theorem xpm_241 : xPm xm_241 := have h := Bool.and_eq_true_iff.mp (List.all_eq_true.mp xpg_4 (16502, xm_241) (List.mem_of_getElem? (i := 1) rfl)); ⟨h.1, xok_241, fun i r e => by cases e; rfl, xwc_of h.2⟩
theorem xpm_242 : xPm xm_242 := have h := Bool.and_eq_true_iff.mp (List.all_eq_true.mp xpg_4 (16509, xm_242) (List.mem_of_getElem? (i := 2) rfl)); ⟨h.1, xok_242, fun i r e => by cases e; rfl, xwc_of h.2⟩
theorem xpm_243 : xPm xm_243 := have h := Bool.and_eq_true_iff.mp (List.all_eq_true.mp xpg_4 (16513, xm_243) (List.mem_of_getElem? (i := 3) rfl)); ⟨h.1, xok_243, fun i r e => by cases e; rfl, xwc_of h.2⟩
theorem xpm_244 : xPm xm_244 := have h := Bool.and_eq_true_iff.mp (List.all_eq_true.mp xpg_4 (16518, xm_244) (List.mem_of_getElem? (i := 4) rfl)); ⟨h.1, xok_244, fun i r e => by cases e; rfl, xwc_of h.2⟩
theorem xpm_245 : xPm xm_245 := have h := Bool.and_eq_true_iff.mp (List.all_eq_true.mp xpg_4 (16522, xm_245) (List.mem_of_getElem? (i := 5) rfl)); ⟨h.1, xok_245, fun i r e => by cases e; rfl, xwc_of h.2⟩
theorem xpm_246 : xPm xm_246 := have h := Bool.and_eq_true_iff.mp (List.all_eq_true.mp xpg_4 (16526, xm_246) (List.mem_of_getElem? (i := 6) rfl)); ⟨h.1, xok_246, fun i r e => by cases e; rfl, xwc_of h.2⟩
theorem xpm_247 : xPm xm_247 := have h := Bool.and_eq_true_iff.mp (List.all_eq_true.mp xpg_4 (16530, xm_247) (List.mem_of_getElem? (i := 7) rfl)); ⟨h.1, xok_247, fun i r e => by cases e; rfl, xwc_of h.2⟩
theorem xpm_248 : xPm xm_248 := have h := Bool.and_eq_true_iff.mp (List.all_eq_true.mp xpg_4 (16534, xm_248) (List.mem_of_getElem? (i := 8) rfl)); ⟨h.1, xok_248, fun i r e => by cases e; rfl, xwc_of h.2⟩
theorem xpm_249 : xPm xm_249 := have h := Bool.and_eq_true_iff.mp (List.all_eq_true.mp xpg_4 (16538, xm_249) (List.mem_of_getElem? (i := 9) rfl)); ⟨h.1, xok_249, fun i r e => by cases e; rfl, xwc_of h.2⟩
theorem xpm_250 : xPm xm_250 := have h := Bool.and_eq_true_iff.mp (List.all_eq_true.mp xpg_4 (16543, xm_250) (List.mem_of_getElem? (i := 10) rfl)); ⟨h.1, xok_250, fun i r e => by cases e; rfl, xwc_of h.2⟩
theorem xpm_251 : xPm xm_251 := have h := Bool.and_eq_true_iff.mp (List.all_eq_true.mp xpg_4 (16547, xm_251) (List.mem_of_getElem? (i := 11) rfl)); ⟨h.1, xok_251, fun i r e => by cases e; rfl, xwc_of h.2⟩
theorem xpm_252 : xPm xm_252 := have h := Bool.and_eq_true_iff.mp (List.all_eq_true.mp xpg_4 (16551, xm_252) (List.mem_of_getElem? (i := 12) rfl)); ⟨h.1, xok_252, fun i r e => by cases e; rfl, xwc_of h.2⟩
theorem xpm_253 : xPm xm_253 := have h := Bool.and_eq_true_iff.mp (List.all_eq_true.mp xpg_4 (16555, xm_253) (List.mem_of_getElem? (i := 13) rfl)); ⟨h.1, xok_253, fun i r e => by cases e; rfl, xwc_of h.2⟩
theorem xpm_254 : xPm xm_254 := have h := Bool.and_eq_true_iff.mp (List.all_eq_true.mp xpg_4 (16559, xm_254) (List.mem_of_getElem? (i := 14) rfl)); ⟨h.1, xok_254, fun i r e => by cases e; rfl, xwc_of h.2⟩
theorem xpm_255 : xPm xm_255 := have h := Bool.and_eq_true_iff.mp (List.all_eq_true.mp xpg_4 (16563, xm_255) (List.mem_of_getElem? (i := 15) rfl)); ⟨h.1, xok_255, fun i r e => by cases e; rfl, xwc_of h.2⟩
theorem xpm_256 : xPm xm_256 := have h := Bool.and_eq_true_iff.mp (List.all_eq_true.mp xpg_4 (16567, xm_256) (List.mem_of_getElem? (i := 16) rfl)); ⟨h.1, xok_256, fun i r e => by cases e; rfl, xwc_of h.2⟩
theorem xpm_257 : xPm xm_257 := have h := Bool.and_eq_true_iff.mp (List.all_eq_true.mp xpg_4 (16571, xm_257) (List.mem_of_getElem? (i := 17) rfl)); ⟨h.1, xok_257, fun i r e => by cases e; rfl, xwc_of h.2⟩
theorem xpm_258 : xPm xm_258 := have h := Bool.and_eq_true_iff.mp (List.all_eq_true.mp xpg_4 (16575, xm_258) (List.mem_of_getElem? (i := 18) rfl)); ⟨h.1, xok_258, fun i r e => by cases e; rfl, xwc_of h.2⟩
theorem xpm_259 : xPm xm_259 := have h := Bool.and_eq_true_iff.mp (List.all_eq_true.mp xpg_4 (16579, xm_259) (List.mem_of_getElem? (i := 19) rfl)); ⟨h.1, xok_259, fun i r e => by cases e; rfl, xwc_of h.2⟩
theorem xpm_260 : xPm xm_260 := have h := Bool.and_eq_true_iff.mp (List.all_eq_true.mp xpg_4 (16583, xm_260) (List.mem_of_getElem? (i := 20) rfl)); ⟨h.1, xok_260, fun i r e => by cases e; rfl, xwc_of h.2⟩
theorem xpm_261 : xPm xm_261 := have h := Bool.and_eq_true_iff.mp (List.all_eq_true.mp xpg_4 (16586, xm_261) (List.mem_of_getElem? (i := 21) rfl)); ⟨h.1, xok_261, fun i r e => by cases e; rfl, xwc_of h.2⟩
theorem xpm_262 : xPm xm_262 := have h := Bool.and_eq_true_iff.mp (List.all_eq_true.mp xpg_4 (16591, xm_262) (List.mem_of_getElem? (i := 22) rfl)); ⟨h.1, xok_262, fun i r e => by cases e; rfl, xwc_of h.2⟩
theorem xpm_263 : xPm xm_263 := have h := Bool.and_eq_true_iff.mp (List.all_eq_true.mp xpg_4 (16595, xm_263) (List.mem_of_getElem? (i := 23) rfl)); ⟨h.1, xok_263, fun i r e => by cases e; rfl, xwc_of h.2⟩
theorem xpm_264 : xPm xm_264 := have h := Bool.and_eq_true_iff.mp (List.all_eq_true.mp xpg_4 (16600, xm_264) (List.mem_of_getElem? (i := 24) rfl)); ⟨h.1, xok_264, fun i r e => by cases e; rfl, xwc_of h.2⟩
theorem xpm_265 : xPm xm_265 := have h := Bool.and_eq_true_iff.mp (List.all_eq_true.mp xpg_4 (16606, xm_265) (List.mem_of_getElem? (i := 25) rfl)); ⟨h.1, xok_265, fun i r e => by cases e; rfl, xwc_of h.2⟩
theorem xpm_266 : xPm xm_266 := have h := Bool.and_eq_true_iff.mp (List.all_eq_true.mp xpg_4 (16611, xm_266) (List.mem_of_getElem? (i := 26) rfl)); ⟨h.1, xok_266, fun i r e => by cases e; rfl, xwc_of h.2⟩
theorem xpm_267 : xPm xm_267 := have h := Bool.and_eq_true_iff.mp (List.all_eq_true.mp xpg_4 (16615, xm_267) (List.mem_of_getElem? (i := 27) rfl)); ⟨h.1, xok_267, fun i r e => by cases e; rfl, xwc_of h.2⟩
theorem xpm_268 : xPm xm_268 := have h := Bool.and_eq_true_iff.mp (List.all_eq_true.mp xpg_4 (16619, xm_268) (List.mem_of_getElem? (i := 28) rfl)); ⟨h.1, xok_268, fun i r e => by cases e; rfl, xwc_of h.2⟩
theorem xpm_269 : xPm xm_269 := have h := Bool.and_eq_true_iff.mp (List.all_eq_true.mp xpg_4 (16623, xm_269) (List.mem_of_getElem? (i := 29) rfl)); ⟨h.1, xok_269, fun i r e => by cases e; rfl, xwc_of h.2⟩
theorem xpm_270 : xPm xm_270 := have h := Bool.and_eq_true_iff.mp (List.all_eq_true.mp xpg_4 (17412, xm_270) (List.mem_of_getElem? (i := 30) rfl)); ⟨h.1, xok_270, fun i r e => by cases e; rfl, xwc_of h.2⟩
theorem xpm_271 : xPm xm_271 := have h := Bool.and_eq_true_iff.mp (List.all_eq_true.mp xpg_4 (17417, xm_271) (List.mem_of_getElem? (i := 31) rfl)); ⟨h.1, xok_271, fun i r e => by cases e; rfl, xwc_of h.2⟩
theorem xpm_272 : xPm xm_272 := have h := Bool.and_eq_true_iff.mp (List.all_eq_true.mp xpg_4 (17421, xm_272) (List.mem_of_getElem? (i := 32) rfl)); ⟨h.1, xok_272, fun i r e => by cases e; rfl, xwc_of h.2⟩
theorem xpm_273 : xPm xm_273 := have h := Bool.and_eq_true_iff.mp (List.all_eq_true.mp xpg_4 (17425, xm_273) (List.mem_of_getElem? (i := 33) rfl)); ⟨h.1, xok_273, fun i r e => by cases e; rfl, xwc_of h.2⟩
theorem xpm_274 : xPm xm_274 := have h := Bool.and_eq_true_iff.mp (List.all_eq_true.mp xpg_4 (17429, xm_274) (List.mem_of_getElem? (i := 34) rfl)); ⟨h.1, xok_274, fun i r e => by cases e; rfl, xwc_of h.2⟩
theorem xpm_275 : xPm xm_275 := have h := Bool.and_eq_true_iff.mp (List.all_eq_true.mp xpg_4 (17433, xm_275) (List.mem_of_getElem? (i := 35) rfl)); ⟨h.1, xok_275, fun i r e => by cases e; rfl, xwc_of h.2⟩
theorem xpm_276 : xPm xm_276 := have h := Bool.and_eq_true_iff.mp (List.all_eq_true.mp xpg_4 (17437, xm_276) (List.mem_of_getElem? (i := 36) rfl)); ⟨h.1, xok_276, fun i r e => by cases e; rfl, xwc_of h.2⟩
theorem xpm_277 : xPm xm_277 := have h := Bool.and_eq_true_iff.mp (List.all_eq_true.mp xpg_4 (17441, xm_277) (List.mem_of_getElem? (i := 37) rfl)); ⟨h.1, xok_277, fun i r e => by cases e; rfl, xwc_of h.2⟩
theorem xpm_278 : xPm xm_278 := have h := Bool.and_eq_true_iff.mp (List.all_eq_true.mp xpg_4 (17447, xm_278) (List.mem_of_getElem? (i := 38) rfl)); ⟨h.1, xok_278, fun i r e => by cases e; rfl, xwc_of h.2⟩
theorem xpm_279 : xPm xm_279 := have h := Bool.and_eq_true_iff.mp (List.all_eq_true.mp xpg_4 (17452, xm_279) (List.mem_of_getElem? (i := 39) rfl)); ⟨h.1, xok_279, fun i r e => by cases e; rfl, xwc_of h.2⟩
theorem xpm_280 : xPm xm_280 := have h := Bool.and_eq_true_iff.mp (List.all_eq_true.mp xpg_4 (17456, xm_280) (List.mem_of_getElem? (i := 40) rfl)); ⟨h.1, xok_280, fun i r e => by cases e; rfl, xwc_of h.2⟩
theorem xpm_281 : xPm xm_281 := have h := Bool.and_eq_true_iff.mp (List.all_eq_true.mp xpg_4 (17460, xm_281) (List.mem_of_getElem? (i := 41) rfl)); ⟨h.1, xok_281, fun i r e => by cases e; rfl, xwc_of h.2⟩
theorem xpm_282 : xPm xm_282 := have h := Bool.and_eq_true_iff.mp (List.all_eq_true.mp xpg_4 (17465, xm_282) (List.mem_of_getElem? (i := 42) rfl)); ⟨h.1, xok_282, fun i r e => by cases e; rfl, xwc_of h.2⟩
theorem xpm_283 : xPm xm_283 := have h := Bool.and_eq_true_iff.mp (List.all_eq_true.mp xpg_4 (17469, xm_283) (List.mem_of_getElem? (i := 43) rfl)); ⟨h.1, xok_283, fun i r e => by cases e; rfl, xwc_of h.2⟩
theorem xpm_284 : xPm xm_284 := have h := Bool.and_eq_true_iff.mp (List.all_eq_true.mp xpg_4 (17475, xm_284) (List.mem_of_getElem? (i := 44) rfl)); ⟨h.1, xok_284, fun i r e => by cases e; rfl, xwc_of h.2⟩
theorem xpm_285 : xPm xm_285 := have h := Bool.and_eq_true_iff.mp (List.all_eq_true.mp xpg_4 (17480, xm_285) (List.mem_of_getElem? (i := 45) rfl)); ⟨h.1, xok_285, fun i r e => by cases e; rfl, xwc_of h.2⟩
theorem xpm_286 : xPm xm_286 := have h := Bool.and_eq_true_iff.mp (List.all_eq_true.mp xpg_4 (17484, xm_286) (List.mem_of_getElem? (i := 46) rfl)); ⟨h.1, xok_286, fun i r e => by cases e; rfl, xwc_of h.2⟩
theorem xpm_287 : xPm xm_287 := have h := Bool.and_eq_true_iff.mp (List.all_eq_true.mp xpg_4 (17488, xm_287) (List.mem_of_getElem? (i := 47) rfl)); ⟨h.1, xok_287, fun i r e => by cases e; rfl, xwc_of h.2⟩
theorem xpm_288 : xPm xm_288 := have h := Bool.and_eq_true_iff.mp (List.all_eq_true.mp xpg_4 (17492, xm_288) (List.mem_of_getElem? (i := 48) rfl)); ⟨h.1, xok_288, fun i r e => by cases e; rfl, xwc_of h.2⟩
theorem xpm_289 : xPm xm_289 := have h := Bool.and_eq_true_iff.mp (List.all_eq_true.mp xpg_4 (17496, xm_289) (List.mem_of_getElem? (i := 49) rfl)); ⟨h.1, xok_289, fun i r e => by cases e; rfl, xwc_of h.2⟩
theorem xpm_290 : xPm xm_290 := have h := Bool.and_eq_true_iff.mp (List.all_eq_true.mp xpg_4 (17500, xm_290) (List.mem_of_getElem? (i := 50) rfl)); ⟨h.1, xok_290, fun i r e => by cases e; rfl, xwc_of h.2⟩
theorem xpm_291 : xPm xm_291 := have h := Bool.and_eq_true_iff.mp (List.all_eq_true.mp xpg_4 (17503, xm_291) (List.mem_of_getElem? (i := 51) rfl)); ⟨h.1, xok_291, fun i r e => by cases e; rfl, xwc_of h.2⟩
theorem xpm_292 : xPm xm_292 := have h := Bool.and_eq_true_iff.mp (List.all_eq_true.mp xpg_4 (17507, xm_292) (List.mem_of_getElem? (i := 52) rfl)); ⟨h.1, xok_292, fun i r e => by cases e; rfl, xwc_of h.2⟩
theorem xpm_293 : xPm xm_293 := have h := Bool.and_eq_true_iff.mp (List.all_eq_true.mp xpg_4 (17511, xm_293) (List.mem_of_getElem? (i := 53) rfl)); ⟨h.1, xok_293, fun i r e => by cases e; rfl, xwc_of h.2⟩
theorem xpm_294 : xPm xm_294 := have h := Bool.and_eq_true_iff.mp (List.all_eq_true.mp xpg_4 (17515, xm_294) (List.mem_of_getElem? (i := 54) rfl)); ⟨h.1, xok_294, fun i r e => by cases e; rfl, xwc_of h.2⟩
theorem xpm_295 : xPm xm_295 := have h := Bool.and_eq_true_iff.mp (List.all_eq_true.mp xpg_4 (17519, xm_295) (List.mem_of_getElem? (i := 55) rfl)); ⟨h.1, xok_295, fun i r e => by cases e; rfl, xwc_of h.2⟩
theorem xpm_296 : xPm xm_296 := have h := Bool.and_eq_true_iff.mp (List.all_eq_true.mp xpg_4 (17523, xm_296) (List.mem_of_getElem? (i := 56) rfl)); ⟨h.1, xok_296, fun i r e => by cases e; rfl, xwc_of h.2⟩
theorem xpm_297 : xPm xm_297 := have h := Bool.and_eq_true_iff.mp (List.all_eq_true.mp xpg_4 (17527, xm_297) (List.mem_of_getElem? (i := 57) rfl)); ⟨h.1, xok_297, fun i r e => by cases e; rfl, xwc_of h.2⟩
theorem xpm_298 : xPm xm_298 := have h := Bool.and_eq_true_iff.mp (List.all_eq_true.mp xpg_4 (17531, xm_298) (List.mem_of_getElem? (i := 58) rfl)); ⟨h.1, xok_298, fun i r e => by cases e; rfl, xwc_of h.2⟩
theorem xpm_299 : xPm xm_299 := have h := Bool.and_eq_true_iff.mp (List.all_eq_true.mp xpg_4 (17536, xm_299) (List.mem_of_getElem? (i := 59) rfl)); ⟨h.1, xok_299, fun i r e => by cases e; rfl, xwc_of h.2⟩
theorem xpm_300 : xPm xm_300 := have h := Bool.and_eq_true_iff.mp (List.all_eq_true.mp xpg_5 (17540, xm_300) (List.mem_of_getElem? (i := 0) rfl)); ⟨h.1, xok_300, fun i r e => by cases e; rfl, xwc_of h.2⟩
theorem xpm_301 : xPm xm_301 := have h := Bool.and_eq_true_iff.mp (List.all_eq_true.mp xpg_5 (17544, xm_301) (List.mem_of_getElem? (i := 1) rfl)); ⟨h.1, xok_301, fun i r e => by cases e; rfl, xwc_of h.2⟩
theorem xpm_302 : xPm xm_302 := have h := Bool.and_eq_true_iff.mp (List.all_eq_true.mp xpg_5 (17549, xm_302) (List.mem_of_getElem? (i := 2) rfl)); ⟨h.1, xok_302, fun i r e => by cases e; rfl, xwc_of h.2⟩
theorem xpm_303 : xPm xm_303 := have h := Bool.and_eq_true_iff.mp (List.all_eq_true.mp xpg_5 (17553, xm_303) (List.mem_of_getElem? (i := 3) rfl)); ⟨h.1, xok_303, fun i r e => by cases e; rfl, xwc_of h.2⟩
theorem xpm_304 : xPm xm_304 := have h := Bool.and_eq_true_iff.mp (List.all_eq_true.mp xpg_5 (17557, xm_304) (List.mem_of_getElem? (i := 4) rfl)); ⟨h.1, xok_304, fun i r e => by cases e; rfl, xwc_of h.2⟩
theorem xpm_305 : xPm xm_305 := have h := Bool.and_eq_true_iff.mp (List.all_eq_true.mp xpg_5 (17561, xm_305) (List.mem_of_getElem? (i := 5) rfl)); ⟨h.1, xok_305, fun i r e => by cases e; rfl, xwc_of h.2⟩
theorem xpm_306 : xPm xm_306 := have h := Bool.and_eq_true_iff.mp (List.all_eq_true.mp xpg_5 (17566, xm_306) (List.mem_of_getElem? (i := 6) rfl)); ⟨h.1, xok_306, fun i r e => by cases e; rfl, xwc_of h.2⟩
theorem xpm_307 : xPm xm_307 := have h := Bool.and_eq_true_iff.mp (List.all_eq_true.mp xpg_5 (17570, xm_307) (List.mem_of_getElem? (i := 7) rfl)); ⟨h.1, xok_307, fun i r e => by cases e; rfl, xwc_of h.2⟩
theorem xpm_308 : xPm xm_308 := have h := Bool.and_eq_true_iff.mp (List.all_eq_true.mp xpg_5 (17575, xm_308) (List.mem_of_getElem? (i := 8) rfl)); ⟨h.1, xok_308, fun i r e => by cases e; rfl, xwc_of h.2⟩
theorem xpm_309 : xPm xm_309 := have h := Bool.and_eq_true_iff.mp (List.all_eq_true.mp xpg_5 (17579, xm_309) (List.mem_of_getElem? (i := 9) rfl)); ⟨h.1, xok_309, fun i r e => by cases e; rfl, xwc_of h.2⟩
theorem xpm_310 : xPm xm_310 := have h := Bool.and_eq_true_iff.mp (List.all_eq_true.mp xpg_5 (17584, xm_310) (List.mem_of_getElem? (i := 10) rfl)); ⟨h.1, xok_310, fun i r e => by cases e; rfl, xwc_of h.2⟩
theorem xpm_311 : xPm xm_311 := have h := Bool.and_eq_true_iff.mp (List.all_eq_true.mp xpg_5 (17588, xm_311) (List.mem_of_getElem? (i := 11) rfl)); ⟨h.1, xok_311, fun i r e => by cases e; rfl, xwc_of h.2⟩
theorem xpm_312 : xPm xm_312 := have h := Bool.and_eq_true_iff.mp (List.all_eq_true.mp xpg_5 (17592, xm_312) (List.mem_of_getElem? (i := 12) rfl)); ⟨h.1, xok_312, fun i r e => by cases e; rfl, xwc_of h.2⟩
theorem xpm_313 : xPm xm_313 := have h := Bool.and_eq_true_iff.mp (List.all_eq_true.mp xpg_5 (17596, xm_313) (List.mem_of_getElem? (i := 13) rfl)); ⟨h.1, xok_313, fun i r e => by cases e; rfl, xwc_of h.2⟩
theorem xpm_314 : xPm xm_314 := have h := Bool.and_eq_true_iff.mp (List.all_eq_true.mp xpg_5 (17600, xm_314) (List.mem_of_getElem? (i := 14) rfl)); ⟨h.1, xok_314, fun i r e => by cases e; rfl, xwc_of h.2⟩
theorem xpm_315 : xPm xm_315 := have h := Bool.and_eq_true_iff.mp (List.all_eq_true.mp xpg_5 (17604, xm_315) (List.mem_of_getElem? (i := 15) rfl)); ⟨h.1, xok_315, fun i r e => by cases e; rfl, xwc_of h.2⟩
theorem xpm_316 : xPm xm_316 := have h := Bool.and_eq_true_iff.mp (List.all_eq_true.mp xpg_5 (17610, xm_316) (List.mem_of_getElem? (i := 16) rfl)); ⟨h.1, xok_316, fun i r e => by cases e; rfl, xwc_of h.2⟩
theorem xpm_317 : xPm xm_317 := have h := Bool.and_eq_true_iff.mp (List.all_eq_true.mp xpg_5 (17616, xm_317) (List.mem_of_getElem? (i := 17) rfl)); ⟨h.1, xok_317, fun i r e => by cases e; rfl, xwc_of h.2⟩
theorem xpm_318 : xPm xm_318 := have h := Bool.and_eq_true_iff.mp (List.all_eq_true.mp xpg_5 (17620, xm_318) (List.mem_of_getElem? (i := 18) rfl)); ⟨h.1, xok_318, fun i r e => by cases e; rfl, xwc_of h.2⟩
theorem xpm_319 : xPm xm_319 := have h := Bool.and_eq_true_iff.mp (List.all_eq_true.mp xpg_5 (17624, xm_319) (List.mem_of_getElem? (i := 19) rfl)); ⟨h.1, xok_319, fun i r e => by cases e; rfl, xwc_of h.2⟩
theorem xpm_320 : xPm xm_320 := have h := Bool.and_eq_true_iff.mp (List.all_eq_true.mp xpg_5 (17624, xm_320) (List.mem_of_getElem? (i := 20) rfl)); ⟨h.1, xok_320, fun i r e => by cases e; rfl, xwc_of h.2⟩
theorem xpm_321 : xPm xm_321 := have h := Bool.and_eq_true_iff.mp (List.all_eq_true.mp xpg_5 (17624, xm_321) (List.mem_of_getElem? (i := 21) rfl)); ⟨h.1, xok_321, fun i r e => by cases e; rfl, xwc_of h.2⟩
theorem xpm_322 : xPm xm_322 := have h := Bool.and_eq_true_iff.mp (List.all_eq_true.mp xpg_5 (17624, xm_322) (List.mem_of_getElem? (i := 22) rfl)); ⟨h.1, xok_322, fun i r e => by cases e; rfl, xwc_of h.2⟩
theorem xpm_323 : xPm xm_323 := have h := Bool.and_eq_true_iff.mp (List.all_eq_true.mp xpg_5 (17624, xm_323) (List.mem_of_getElem? (i := 23) rfl)); ⟨h.1, xok_323, fun i r e => by cases e; rfl, xwc_of h.2⟩
theorem xpm_324 : xPm xm_324 := have h := Bool.and_eq_true_iff.mp (List.all_eq_true.mp xpg_5 (17624, xm_324) (List.mem_of_getElem? (i := 24) rfl)); ⟨h.1, xok_324, fun i r e => by cases e; rfl, xwc_of h.2⟩
theorem xpm_325 : xPm xm_325 := have h := Bool.and_eq_true_iff.mp (List.all_eq_true.mp xpg_5 (17624, xm_325) (List.mem_of_getElem? (i := 25) rfl)); ⟨h.1, xok_325, fun i r e => by cases e; rfl, xwc_of h.2⟩
theorem xpm_326 : xPm xm_326 := have h := Bool.and_eq_true_iff.mp (List.all_eq_true.mp xpg_5 (17624, xm_326) (List.mem_of_getElem? (i := 26) rfl)); ⟨h.1, xok_326, fun i r e => by cases e; rfl, xwc_of h.2⟩
theorem xpm_327 : xPm xm_327 := have h := Bool.and_eq_true_iff.mp (List.all_eq_true.mp xpg_5 (17624, xm_327) (List.mem_of_getElem? (i := 27) rfl)); ⟨h.1, xok_327, fun i r e => by cases e; rfl, xwc_of h.2⟩
theorem xpm_328 : xPm xm_328 := have h := Bool.and_eq_true_iff.mp (List.all_eq_true.mp xpg_5 (17624, xm_328) (List.mem_of_getElem? (i := 28) rfl)); ⟨h.1, xok_328, fun i r e => by cases e; rfl, xwc_of h.2⟩
theorem xpm_329 : xPm xm_329 := have h := Bool.and_eq_true_iff.mp (List.all_eq_true.mp xpg_5 (17624, xm_329) (List.mem_of_getElem? (i := 29) rfl)); ⟨h.1, xok_329, fun i r e => by cases e; rfl, xwc_of h.2⟩
theorem xpm_330 : xPm xm_330 := have h := Bool.and_eq_true_iff.mp (List.all_eq_true.mp xpg_5 (17624, xm_330) (List.mem_of_getElem? (i := 30) rfl)); ⟨h.1, xok_330, fun i r e => by cases e; rfl, xwc_of h.2⟩
theorem xpm_331 : xPm xm_331 := have h := Bool.and_eq_true_iff.mp (List.all_eq_true.mp xpg_5 (17624, xm_331) (List.mem_of_getElem? (i := 31) rfl)); ⟨h.1, xok_331, fun i r e => by cases e; rfl, xwc_of h.2⟩
theorem xpm_332 : xPm xm_332 := have h := Bool.and_eq_true_iff.mp (List.all_eq_true.mp xpg_5 (17624, xm_332) (List.mem_of_getElem? (i := 32) rfl)); ⟨h.1, xok_332, fun i r e => by cases e; rfl, xwc_of h.2⟩
theorem xpm_333 : xPm xm_333 := have h := Bool.and_eq_true_iff.mp (List.all_eq_true.mp xpg_5 (17624, xm_333) (List.mem_of_getElem? (i := 33) rfl)); ⟨h.1, xok_333, fun i r e => by cases e; rfl, xwc_of h.2⟩
theorem xpm_334 : xPm xm_334 := have h := Bool.and_eq_true_iff.mp (List.all_eq_true.mp xpg_5 (17624, xm_334) (List.mem_of_getElem? (i := 34) rfl)); ⟨h.1, xok_334, fun i r e => by cases e; rfl, xwc_of h.2⟩
theorem xpm_335 : xPm xm_335 := have h := Bool.and_eq_true_iff.mp (List.all_eq_true.mp xpg_5 (17624, xm_335) (List.mem_of_getElem? (i := 35) rfl)); ⟨h.1, xok_335, fun i r e => by cases e; rfl, xwc_of h.2⟩
theorem xpm_336 : xPm xm_336 := have h := Bool.and_eq_true_iff.mp (List.all_eq_true.mp xpg_5 (17628, xm_336) (List.mem_of_getElem? (i := 36) rfl)); ⟨h.1, xok_336, fun i r e => by cases e; rfl, xwc_of h.2⟩
theorem xpm_337 : xPm xm_337 := have h := Bool.and_eq_true_iff.mp (List.all_eq_true.mp xpg_5 (17628, xm_337) (List.mem_of_getElem? (i := 37) rfl)); ⟨h.1, xok_337, fun i r e => by cases e; rfl, xwc_of h.2⟩
theorem xpm_338 : xPm xm_338 := have h := Bool.and_eq_true_iff.mp (List.all_eq_true.mp xpg_5 (17628, xm_338) (List.mem_of_getElem? (i := 38) rfl)); ⟨h.1, xok_338, fun i r e => by cases e; rfl, xwc_of h.2⟩
theorem xpm_339 : xPm xm_339 := have h := Bool.and_eq_true_iff.mp (List.all_eq_true.mp xpg_5 (17628, xm_339) (List.mem_of_getElem? (i := 39) rfl)); ⟨h.1, xok_339, fun i r e => by cases e; rfl, xwc_of h.2⟩
theorem xpm_340 : xPm xm_340 := have h := Bool.and_eq_true_iff.mp (List.all_eq_true.mp xpg_5 (17628, xm_340) (List.mem_of_getElem? (i := 40) rfl)); ⟨h.1, xok_340, fun i r e => by cases e; rfl, xwc_of h.2⟩
theorem xpm_341 : xPm xm_341 := have h := Bool.and_eq_true_iff.mp (List.all_eq_true.mp xpg_5 (17628, xm_341) (List.mem_of_getElem? (i := 41) rfl)); ⟨h.1, xok_341, fun i r e => by cases e; rfl, xwc_of h.2⟩
theorem xpm_342 : xPm xm_342 := have h := Bool.and_eq_true_iff.mp (List.all_eq_true.mp xpg_5 (17628, xm_342) (List.mem_of_getElem? (i := 42) rfl)); ⟨h.1, xok_342, fun i r e => by cases e; rfl, xwc_of h.2⟩
theorem xpm_343 : xPm xm_343 := have h := Bool.and_eq_true_iff.mp (List.all_eq_true.mp xpg_5 (17628, xm_343) (List.mem_of_getElem? (i := 43) rfl)); ⟨h.1, xok_343, fun i r e => by cases e; rfl, xwc_of h.2⟩
theorem xpm_344 : xPm xm_344 := have h := Bool.and_eq_true_iff.mp (List.all_eq_true.mp xpg_5 (17628, xm_344) (List.mem_of_getElem? (i := 44) rfl)); ⟨h.1, xok_344, fun i r e => by cases e; rfl, xwc_of h.2⟩
theorem xpm_345 : xPm xm_345 := have h := Bool.and_eq_true_iff.mp (List.all_eq_true.mp xpg_5 (17628, xm_345) (List.mem_of_getElem? (i := 45) rfl)); ⟨h.1, xok_345, fun i r e => by cases e; rfl, xwc_of h.2⟩
theorem xpm_346 : xPm xm_346 := have h := Bool.and_eq_true_iff.mp (List.all_eq_true.mp xpg_5 (17628, xm_346) (List.mem_of_getElem? (i := 46) rfl)); ⟨h.1, xok_346, fun i r e => by cases e; rfl, xwc_of h.2⟩
theorem xpm_347 : xPm xm_347 := have h := Bool.and_eq_true_iff.mp (List.all_eq_true.mp xpg_5 (17628, xm_347) (List.mem_of_getElem? (i := 47) rfl)); ⟨h.1, xok_347, fun i r e => by cases e; rfl, xwc_of h.2⟩
theorem xpm_348 : xPm xm_348 := have h := Bool.and_eq_true_iff.mp (List.all_eq_true.mp xpg_5 (17628, xm_348) (List.mem_of_getElem? (i := 48) rfl)); ⟨h.1, xok_348, fun i r e => by cases e; rfl, xwc_of h.2⟩
theorem xpm_349 : xPm xm_349 := have h := Bool.and_eq_true_iff.mp (List.all_eq_true.mp xpg_5 (17628, xm_349) (List.mem_of_getElem? (i := 49) rfl)); ⟨h.1, xok_349, fun i r e => by cases e; rfl, xwc_of h.2⟩
theorem xpm_350 : xPm xm_350 := have h := Bool.and_eq_true_iff.mp (List.all_eq_true.mp xpg_5 (17628, xm_350) (List.mem_of_getElem? (i := 50) rfl)); ⟨h.1, xok_350, fun i r e => by cases e; rfl, xwc_of h.2⟩
theorem xpm_351 : xPm xm_351 := have h := Bool.and_eq_true_iff.mp (List.all_eq_true.mp xpg_5 (17628, xm_351) (List.mem_of_getElem? (i := 51) rfl)); ⟨h.1, xok_351, fun i r e => by cases e; rfl, xwc_of h.2⟩
theorem xpm_352 : xPm xm_352 := have h := Bool.and_eq_true_iff.mp (List.all_eq_true.mp xpg_5 (17628, xm_352) (List.mem_of_getElem? (i := 52) rfl)); ⟨h.1, xok_352, fun i r e => by cases e; rfl, xwc_of h.2⟩
theorem xpm_353 : xPm xm_353 := have h := Bool.and_eq_true_iff.mp (List.all_eq_true.mp xpg_5 (17632, xm_353) (List.mem_of_getElem? (i := 53) rfl)); ⟨h.1, xok_353, fun i r e => by cases e; rfl, xwc_of h.2⟩
theorem xpm_354 : xPm xm_354 := have h := Bool.and_eq_true_iff.mp (List.all_eq_true.mp xpg_5 (17632, xm_354) (List.mem_of_getElem? (i := 54) rfl)); ⟨h.1, xok_354, fun i r e => by cases e; rfl, xwc_of h.2⟩
theorem xpm_355 : xPm xm_355 := have h := Bool.and_eq_true_iff.mp (List.all_eq_true.mp xpg_5 (17632, xm_355) (List.mem_of_getElem? (i := 55) rfl)); ⟨h.1, xok_355, fun i r e => by cases e; rfl, xwc_of h.2⟩
theorem xpm_356 : xPm xm_356 := have h := Bool.and_eq_true_iff.mp (List.all_eq_true.mp xpg_5 (17632, xm_356) (List.mem_of_getElem? (i := 56) rfl)); ⟨h.1, xok_356, fun i r e => by cases e; rfl, xwc_of h.2⟩
theorem xpm_357 : xPm xm_357 := have h := Bool.and_eq_true_iff.mp (List.all_eq_true.mp xpg_5 (17632, xm_357) (List.mem_of_getElem? (i := 57) rfl)); ⟨h.1, xok_357, fun i r e => by cases e; rfl, xwc_of h.2⟩
theorem xpm_358 : xPm xm_358 := have h := Bool.and_eq_true_iff.mp (List.all_eq_true.mp xpg_5 (17632, xm_358) (List.mem_of_getElem? (i := 58) rfl)); ⟨h.1, xok_358, fun i r e => by cases e; rfl, xwc_of h.2⟩
theorem xpm_359 : xPm xm_359 := have h := Bool.and_eq_true_iff.mp (List.all_eq_true.mp xpg_5 (17632, xm_359) (List.mem_of_getElem? (i := 59) rfl)); ⟨h.1, xok_359, fun i r e => by cases e; rfl, xwc_of h.2⟩
theorem xpm_360 : xPm xm_360 := have h := Bool.and_eq_true_iff.mp (List.all_eq_true.mp xpg_6 (17632, xm_360) (List.mem_of_getElem? (i := 0) rfl)); ⟨h.1, xok_360, fun i r e => by cases e; rfl, xwc_of h.2⟩
theorem xpm_361 : xPm xm_361 := have h := Bool.and_eq_true_iff.mp (List.all_eq_true.mp xpg_6 (17632, xm_361) (List.mem_of_getElem? (i := 1) rfl)); ⟨h.1, xok_361, fun i r e => by cases e; rfl, xwc_of h.2⟩
theorem xpm_362 : xPm xm_362 := have h := Bool.and_eq_true_iff.mp (List.all_eq_true.mp xpg_6 (17632, xm_362) (List.mem_of_getElem? (i := 2) rfl)); ⟨h.1, xok_362, fun i r e => by cases e; rfl, xwc_of h.2⟩
theorem xpm_363 : xPm xm_363 := have h := Bool.and_eq_true_iff.mp (List.all_eq_true.mp xpg_6 (17632, xm_363) (List.mem_of_getElem? (i := 3) rfl)); ⟨h.1, xok_363, fun i r e => by cases e; rfl, xwc_of h.2⟩
theorem xpm_364 : xPm xm_364 := have h := Bool.and_eq_true_iff.mp (List.all_eq_true.mp xpg_6 (17632, xm_364) (List.mem_of_getElem? (i := 4) rfl)); ⟨h.1, xok_364, fun i r e => by cases e; rfl, xwc_of h.2⟩
theorem xpm_365 : xPm xm_365 := have h := Bool.and_eq_true_iff.mp (List.all_eq_true.mp xpg_6 (17632, xm_365) (List.mem_of_getElem? (i := 5) rfl)); ⟨h.1, xok_365, fun i r e => by cases e; rfl, xwc_of h.2⟩
theorem xpm_366 : xPm xm_366 := have h := Bool.and_eq_true_iff.mp (List.all_eq_true.mp xpg_6 (17632, xm_366) (List.mem_of_getElem? (i := 6) rfl)); ⟨h.1, xok_366, fun i r e => by cases e; rfl, xwc_of h.2⟩
theorem xpm_367 : xPm xm_367 := have h := Bool.and_eq_true_iff.mp (List.all_eq_true.mp xpg_6 (17632, xm_367) (List.mem_of_getElem? (i := 7) rfl)); ⟨h.1, xok_367, fun i r e => by cases e; rfl, xwc_of h.2⟩
theorem xpm_368 : xPm xm_368 := have h := Bool.and_eq_true_iff.mp (List.all_eq_true.mp xpg_6 (17632, xm_368) (List.mem_of_getElem? (i := 8) rfl)); ⟨h.1, xok_368, fun i r e => by cases e; rfl, xwc_of h.2⟩
theorem xpm_369 : xPm xm_369 := have h := Bool.and_eq_true_iff.mp (List.all_eq_true.mp xpg_6 (17632, xm_369) (List.mem_of_getElem? (i := 9) rfl)); ⟨h.1, xok_369, fun i r e => by cases e; rfl, xwc_of h.2⟩
theorem xpm_370 : xPm xm_370 := have h := Bool.and_eq_true_iff.mp (List.all_eq_true.mp xpg_6 (17636, xm_370) (List.mem_of_getElem? (i := 10) rfl)); ⟨h.1, xok_370, fun i r e => by cases e; rfl, xwc_of h.2⟩
theorem xpm_371 : xPm xm_371 := have h := Bool.and_eq_true_iff.mp (List.all_eq_true.mp xpg_6 (17636, xm_371) (List.mem_of_getElem? (i := 11) rfl)); ⟨h.1, xok_371, fun i r e => by cases e; rfl, xwc_of h.2⟩
theorem xpm_372 : xPm xm_372 := have h := Bool.and_eq_true_iff.mp (List.all_eq_true.mp xpg_6 (17636, xm_372) (List.mem_of_getElem? (i := 12) rfl)); ⟨h.1, xok_372, fun i r e => by cases e; rfl, xwc_of h.2⟩
theorem xpm_373 : xPm xm_373 := have h := Bool.and_eq_true_iff.mp (List.all_eq_true.mp xpg_6 (17636, xm_373) (List.mem_of_getElem? (i := 13) rfl)); ⟨h.1, xok_373, fun i r e => by cases e; rfl, xwc_of h.2⟩
theorem xpm_374 : xPm xm_374 := have h := Bool.and_eq_true_iff.mp (List.all_eq_true.mp xpg_6 (17636, xm_374) (List.mem_of_getElem? (i := 14) rfl)); ⟨h.1, xok_374, fun i r e => by cases e; rfl, xwc_of h.2⟩
theorem xpm_375 : xPm xm_375 := have h := Bool.and_eq_true_iff.mp (List.all_eq_true.mp xpg_6 (17636, xm_375) (List.mem_of_getElem? (i := 15) rfl)); ⟨h.1, xok_375, fun i r e => by cases e; rfl, xwc_of h.2⟩
theorem xpm_376 : xPm xm_376 := have h := Bool.and_eq_true_iff.mp (List.all_eq_true.mp xpg_6 (17636, xm_376) (List.mem_of_getElem? (i := 16) rfl)); ⟨h.1, xok_376, fun i r e => by cases e; rfl, xwc_of h.2⟩
theorem xpm_377 : xPm xm_377 := have h := Bool.and_eq_true_iff.mp (List.all_eq_true.mp xpg_6 (17636, xm_377) (List.mem_of_getElem? (i := 17) rfl)); ⟨h.1, xok_377, fun i r e => by cases e; rfl, xwc_of h.2⟩
theorem xpm_378 : xPm xm_378 := have h := Bool.and_eq_true_iff.mp (List.all_eq_true.mp xpg_6 (17636, xm_378) (List.mem_of_getElem? (i := 18) rfl)); ⟨h.1, xok_378, fun i r e => by cases e; rfl, xwc_of h.2⟩
theorem xpm_379 : xPm xm_379 := have h := Bool.and_eq_true_iff.mp (List.all_eq_true.mp xpg_6 (17636, xm_379) (List.mem_of_getElem? (i := 19) rfl)); ⟨h.1, xok_379, fun i r e => by cases e; rfl, xwc_of h.2⟩
theorem xpm_380 : xPm xm_380 := have h := Bool.and_eq_true_iff.mp (List.all_eq_true.mp xpg_6 (17636, xm_380) (List.mem_of_getElem? (i := 20) rfl)); ⟨h.1, xok_380, fun i r e => by cases e; rfl, xwc_of h.2⟩
theorem xpm_381 : xPm xm_381 := have h := Bool.and_eq_true_iff.mp (List.all_eq_true.mp xpg_6 (17636, xm_381) (List.mem_of_getElem? (i := 21) rfl)); ⟨h.1, xok_381, fun i r e => by cases e; rfl, xwc_of h.2⟩
theorem xpm_382 : xPm xm_382 := have h := Bool.and_eq_true_iff.mp (List.all_eq_true.mp xpg_6 (17636, xm_382) (List.mem_of_getElem? (i := 22) rfl)); ⟨h.1, xok_382, fun i r e => by cases e; rfl, xwc_of h.2⟩
theorem xpm_383 : xPm xm_383 := have h := Bool.and_eq_true_iff.mp (List.all_eq_true.mp xpg_6 (17636, xm_383) (List.mem_of_getElem? (i := 23) rfl)); ⟨h.1, xok_383, fun i r e => by cases e; rfl, xwc_of h.2⟩
theorem xpm_384 : xPm xm_384 := have h := Bool.and_eq_true_iff.mp (List.all_eq_true.mp xpg_6 (17636, xm_384) (List.mem_of_getElem? (i := 24) rfl)); ⟨h.1, xok_384, fun i r e => by cases e; rfl, xwc_of h.2⟩
theorem xpm_385 : xPm xm_385 := have h := Bool.and_eq_true_iff.mp (List.all_eq_true.mp xpg_6 (17636, xm_385) (List.mem_of_getElem? (i := 25) rfl)); ⟨h.1, xok_385, fun i r e => by cases e; rfl, xwc_of h.2⟩
theorem xpm_386 : xPm xm_386 := have h := Bool.and_eq_true_iff.mp (List.all_eq_true.mp xpg_6 (17636, xm_386) (List.mem_of_getElem? (i := 26) rfl)); ⟨h.1, xok_386, fun i r e => by cases e; rfl, xwc_of h.2⟩
theorem xpm_387 : xPm xm_387 := have h := Bool.and_eq_true_iff.mp (List.all_eq_true.mp xpg_6 (17640, xm_387) (List.mem_of_getElem? (i := 27) rfl)); ⟨h.1, xok_387, fun i r e => by cases e; rfl, xwc_of h.2⟩
theorem xpm_388 : xPm xm_388 := have h := Bool.and_eq_true_iff.mp (List.all_eq_true.mp xpg_6 (17640, xm_388) (List.mem_of_getElem? (i := 28) rfl)); ⟨h.1, xok_388, fun i r e => by cases e; rfl, xwc_of h.2⟩
theorem xpm_389 : xPm xm_389 := have h := Bool.and_eq_true_iff.mp (List.all_eq_true.mp xpg_6 (17640, xm_389) (List.mem_of_getElem? (i := 29) rfl)); ⟨h.1, xok_389, fun i r e => by cases e; rfl, xwc_of h.2⟩
theorem xpm_390 : xPm xm_390 := have h := Bool.and_eq_true_iff.mp (List.all_eq_true.mp xpg_6 (17640, xm_390) (List.mem_of_getElem? (i := 30) rfl)); ⟨h.1, xok_390, fun i r e => by cases e; rfl, xwc_of h.2⟩
theorem xpm_391 : xPm xm_391 := have h := Bool.and_eq_true_iff.mp (List.all_eq_true.mp xpg_6 (17640, xm_391) (List.mem_of_getElem? (i := 31) rfl)); ⟨h.1, xok_391, fun i r e => by cases e; rfl, xwc_of h.2⟩
theorem xpm_392 : xPm xm_392 := have h := Bool.and_eq_true_iff.mp (List.all_eq_true.mp xpg_6 (17640, xm_392) (List.mem_of_getElem? (i := 32) rfl)); ⟨h.1, xok_392, fun i r e => by cases e; rfl, xwc_of h.2⟩
theorem xpm_393 : xPm xm_393 := have h := Bool.and_eq_true_iff.mp (List.all_eq_true.mp xpg_6 (17640, xm_393) (List.mem_of_getElem? (i := 33) rfl)); ⟨h.1, xok_393, fun i r e => by cases e; rfl, xwc_of h.2⟩
theorem xpm_394 : xPm xm_394 := have h := Bool.and_eq_true_iff.mp (List.all_eq_true.mp xpg_6 (17640, xm_394) (List.mem_of_getElem? (i := 34) rfl)); ⟨h.1, xok_394, fun i r e => by cases e; rfl, xwc_of h.2⟩
theorem xpm_395 : xPm xm_395 := have h := Bool.and_eq_true_iff.mp (List.all_eq_true.mp xpg_6 (17640, xm_395) (List.mem_of_getElem? (i := 35) rfl)); ⟨h.1, xok_395, fun i r e => by cases e; rfl, xwc_of h.2⟩
theorem xpm_396 : xPm xm_396 := have h := Bool.and_eq_true_iff.mp (List.all_eq_true.mp xpg_6 (17640, xm_396) (List.mem_of_getElem? (i := 36) rfl)); ⟨h.1, xok_396, fun i r e => by cases e; rfl, xwc_of h.2⟩
theorem xpm_397 : xPm xm_397 := have h := Bool.and_eq_true_iff.mp (List.all_eq_true.mp xpg_6 (17640, xm_397) (List.mem_of_getElem? (i := 37) rfl)); ⟨h.1, xok_397, fun i r e => by cases e; rfl, xwc_of h.2⟩
theorem xpm_398 : xPm xm_398 := have h := Bool.and_eq_true_iff.mp (List.all_eq_true.mp xpg_6 (17640, xm_398) (List.mem_of_getElem? (i := 38) rfl)); ⟨h.1, xok_398, fun i r e => by cases e; rfl, xwc_of h.2⟩
theorem xpm_399 : xPm xm_399 := have h := Bool.and_eq_true_iff.mp (List.all_eq_true.mp xpg_6 (17640, xm_399) (List.mem_of_getElem? (i := 39) rfl)); ⟨h.1, xok_399, fun i r e => by cases e; rfl, xwc_of h.2⟩
theorem xpm_400 : xPm xm_400 := have h := Bool.and_eq_true_iff.mp (List.all_eq_true.mp xpg_6 (17640, xm_400) (List.mem_of_getElem? (i := 40) rfl)); ⟨h.1, xok_400, fun i r e => by cases e; rfl, xwc_of h.2⟩
theorem xpm_401 : xPm xm_401 := have h := Bool.and_eq_true_iff.mp (List.all_eq_true.mp xpg_6 (17640, xm_401) (List.mem_of_getElem? (i := 41) rfl)); ⟨h.1, xok_401, fun i r e => by cases e; rfl, xwc_of h.2⟩
theorem xpm_402 : xPm xm_402 := have h := Bool.and_eq_true_iff.mp (List.all_eq_true.mp xpg_6 (17640, xm_402) (List.mem_of_getElem? (i := 42) rfl)); ⟨h.1, xok_402, fun i r e => by cases e; rfl, xwc_of h.2⟩
theorem xpm_403 : xPm xm_403 := have h := Bool.and_eq_true_iff.mp (List.all_eq_true.mp xpg_6 (17640, xm_403) (List.mem_of_getElem? (i := 43) rfl)); ⟨h.1, xok_403, fun i r e => by cases e; rfl, xwc_of h.2⟩
theorem xpm_404 : xPm xm_404 := have h := Bool.and_eq_true_iff.mp (List.all_eq_true.mp xpg_6 (17644, xm_404) (List.mem_of_getElem? (i := 44) rfl)); ⟨h.1, xok_404, fun i r e => by cases e; rfl, xwc_of h.2⟩
theorem xpm_405 : xPm xm_405 := have h := Bool.and_eq_true_iff.mp (List.all_eq_true.mp xpg_6 (17644, xm_405) (List.mem_of_getElem? (i := 45) rfl)); ⟨h.1, xok_405, fun i r e => by cases e; rfl, xwc_of h.2⟩
theorem xpm_406 : xPm xm_406 := have h := Bool.and_eq_true_iff.mp (List.all_eq_true.mp xpg_6 (17644, xm_406) (List.mem_of_getElem? (i := 46) rfl)); ⟨h.1, xok_406, fun i r e => by cases e; rfl, xwc_of h.2⟩
theorem xpm_407 : xPm xm_407 := have h := Bool.and_eq_true_iff.mp (List.all_eq_true.mp xpg_6 (17644, xm_407) (List.mem_of_getElem? (i := 47) rfl)); ⟨h.1, xok_407, fun i r e => by cases e; rfl, xwc_of h.2⟩
theorem xpm_408 : xPm xm_408 := have h := Bool.and_eq_true_iff.mp (List.all_eq_true.mp xpg_6 (17644, xm_408) (List.mem_of_getElem? (i := 48) rfl)); ⟨h.1, xok_408, fun i r e => by cases e; rfl, xwc_of h.2⟩
theorem xpm_409 : xPm xm_409 := have h := Bool.and_eq_true_iff.mp (List.all_eq_true.mp xpg_6 (17644, xm_409) (List.mem_of_getElem? (i := 49) rfl)); ⟨h.1, xok_409, fun i r e => by cases e; rfl, xwc_of h.2⟩
theorem xpm_410 : xPm xm_410 := have h := Bool.and_eq_true_iff.mp (List.all_eq_true.mp xpg_6 (17644, xm_410) (List.mem_of_getElem? (i := 50) rfl)); ⟨h.1, xok_410, fun i r e => by cases e; rfl, xwc_of h.2⟩
theorem xpm_411 : xPm xm_411 := have h := Bool.and_eq_true_iff.mp (List.all_eq_true.mp xpg_6 (17644, xm_411) (List.mem_of_getElem? (i := 51) rfl)); ⟨h.1, xok_411, fun i r e => by cases e; rfl, xwc_of h.2⟩
theorem xpm_412 : xPm xm_412 := have h := Bool.and_eq_true_iff.mp (List.all_eq_true.mp xpg_6 (17644, xm_412) (List.mem_of_getElem? (i := 52) rfl)); ⟨h.1, xok_412, fun i r e => by cases e; rfl, xwc_of h.2⟩
theorem xpm_413 : xPm xm_413 := have h := Bool.and_eq_true_iff.mp (List.all_eq_true.mp xpg_6 (17644, xm_413) (List.mem_of_getElem? (i := 53) rfl)); ⟨h.1, xok_413, fun i r e => by cases e; rfl, xwc_of h.2⟩
theorem xpm_414 : xPm xm_414 := have h := Bool.and_eq_true_iff.mp (List.all_eq_true.mp xpg_6 (17644, xm_414) (List.mem_of_getElem? (i := 54) rfl)); ⟨h.1, xok_414, fun i r e => by cases e; rfl, xwc_of h.2⟩
theorem xpm_415 : xPm xm_415 := have h := Bool.and_eq_true_iff.mp (List.all_eq_true.mp xpg_6 (17644, xm_415) (List.mem_of_getElem? (i := 55) rfl)); ⟨h.1, xok_415, fun i r e => by cases e; rfl, xwc_of h.2⟩
theorem xpm_416 : xPm xm_416 := have h := Bool.and_eq_true_iff.mp (List.all_eq_true.mp xpg_6 (17644, xm_416) (List.mem_of_getElem? (i := 56) rfl)); ⟨h.1, xok_416, fun i r e => by cases e; rfl, xwc_of h.2⟩
theorem xpm_417 : xPm xm_417 := have h := Bool.and_eq_true_iff.mp (List.all_eq_true.mp xpg_6 (17644, xm_417) (List.mem_of_getElem? (i := 57) rfl)); ⟨h.1, xok_417, fun i r e => by cases e; rfl, xwc_of h.2⟩
theorem xpm_418 : xPm xm_418 := have h := Bool.and_eq_true_iff.mp (List.all_eq_true.mp xpg_6 (17644, xm_418) (List.mem_of_getElem? (i := 58) rfl)); ⟨h.1, xok_418, fun i r e => by cases e; rfl, xwc_of h.2⟩
theorem xpm_419 : xPm xm_419 := have h := Bool.and_eq_true_iff.mp (List.all_eq_true.mp xpg_6 (17644, xm_419) (List.mem_of_getElem? (i := 59) rfl)); ⟨h.1, xok_419, fun i r e => by cases e; rfl, xwc_of h.2⟩
theorem xpm_420 : xPm xm_420 := have h := Bool.and_eq_true_iff.mp (List.all_eq_true.mp xpg_7 (17644, xm_420) (List.mem_of_getElem? (i := 0) rfl)); ⟨h.1, xok_420, fun i r e => by cases e; rfl, xwc_of h.2⟩
theorem xpm_421 : xPm xm_421 := have h := Bool.and_eq_true_iff.mp (List.all_eq_true.mp xpg_7 (18432, xm_421) (List.mem_of_getElem? (i := 1) rfl)); ⟨h.1, xok_421, fun i r e => by cases e; rfl, xwc_of h.2⟩
theorem xpm_422 : xPm xm_422 := have h := Bool.and_eq_true_iff.mp (List.all_eq_true.mp xpg_7 (18435, xm_422) (List.mem_of_getElem? (i := 2) rfl)); ⟨h.1, xok_422, fun i r e => by cases e; rfl, xwc_of h.2⟩
theorem xpm_423 : xPm xm_423 := have h := Bool.and_eq_true_iff.mp (List.all_eq_true.mp xpg_7 (18439, xm_423) (List.mem_of_getElem? (i := 3) rfl)); ⟨h.1, xok_423, fun i r e => by cases e; rfl, xwc_of h.2⟩
theorem xpm_424 : xPm xm_424 := have h := Bool.and_eq_true_iff.mp (List.all_eq_true.mp xpg_7 (18443, xm_424) (List.mem_of_getElem? (i := 4) rfl)); ⟨h.1, xok_424, fun i r e => by cases e; rfl, xwc_of h.2⟩
theorem xpm_425 : xPm xm_425 := have h := Bool.and_eq_true_iff.mp (List.all_eq_true.mp xpg_7 (18447, xm_425) (List.mem_of_getElem? (i := 5) rfl)); ⟨h.1, xok_425, fun i r e => by cases e; rfl, xwc_of h.2⟩
theorem xpm_426 : xPm xm_426 := have h := Bool.and_eq_true_iff.mp (List.all_eq_true.mp xpg_7 (18451, xm_426) (List.mem_of_getElem? (i := 6) rfl)); ⟨h.1, xok_426, fun i r e => by cases e; rfl, xwc_of h.2⟩
theorem xpm_427 : xPm xm_427 := have h := Bool.and_eq_true_iff.mp (List.all_eq_true.mp xpg_7 (18455, xm_427) (List.mem_of_getElem? (i := 7) rfl)); ⟨h.1, xok_427, fun i r e => by cases e; rfl, xwc_of h.2⟩
theorem xpm_428 : xPm xm_428 := have h := Bool.and_eq_true_iff.mp (List.all_eq_true.mp xpg_7 (18459, xm_428) (List.mem_of_getElem? (i := 8) rfl)); ⟨h.1, xok_428, fun i r e => by cases e; rfl, xwc_of h.2⟩
theorem xpm_429 : xPm xm_429 := have h := Bool.and_eq_true_iff.mp (List.all_eq_true.mp xpg_7 (18463, xm_429) (List.mem_of_getElem? (i := 9) rfl)); ⟨h.1, xok_429, fun i r e => by cases e; rfl, xwc_of h.2⟩
theorem xpm_430 : xPm xm_430 := have h := Bool.and_eq_true_iff.mp (List.all_eq_true.mp xpg_7 (18467, xm_430) (List.mem_of_getElem? (i := 10) rfl)); ⟨h.1, xok_430, fun i r e => by cases e; rfl, xwc_of h.2⟩
theorem xpm_431 : xPm xm_431 := have h := Bool.and_eq_true_iff.mp (List.all_eq_true.mp xpg_7 (18471, xm_431) (List.mem_of_getElem? (i := 11) rfl)); ⟨h.1, xok_431, fun i r e => by cases e; rfl, xwc_of h.2⟩
theorem xpm_432 : xPm xm_432 := have h := Bool.and_eq_true_iff.mp (List.all_eq_true.mp xpg_7 (18475, xm_432) (List.mem_of_getElem? (i := 12) rfl)); ⟨h.1, xok_432, fun i r e => by cases e; rfl, xwc_of h.2⟩
theorem xpm_433 : xPm xm_433 := have h := Bool.and_eq_true_iff.mp (List.all_eq_true.mp xpg_7 (18479, xm_433) (List.mem_of_getElem? (i := 13) rfl)); ⟨h.1, xok_433, fun i r e => by cases e; rfl, xwc_of h.2⟩
theorem xpm_434 : xPm xm_434 := have h := Bool.and_eq_true_iff.mp (List.all_eq_true.mp xpg_7 (18483, xm_434) (List.mem_of_getElem? (i := 14) rfl)); ⟨h.1, xok_434, fun i r e => by cases e; rfl, xwc_of h.2⟩
theorem xpm_435 : xPm xm_435 := have h := Bool.and_eq_true_iff.mp (List.all_eq_true.mp xpg_7 (18487, xm_435) (List.mem_of_getElem? (i := 15) rfl)); ⟨h.1, xok_435, fun i r e => by cases e; rfl, xwc_of h.2⟩
theorem xpm_436 : xPm xm_436 := have h := Bool.and_eq_true_iff.mp (List.all_eq_true.mp xpg_7 (18491, xm_436) (List.mem_of_getElem? (i := 16) rfl)); ⟨h.1, xok_436, fun i r e => by cases e; rfl, xwc_of h.2⟩
theorem xpm_437 : xPm xm_437 := have h := Bool.and_eq_true_iff.mp (List.all_eq_true.mp xpg_7 (18495, xm_437) (List.mem_of_getElem? (i := 17) rfl)); ⟨h.1, xok_437, fun i r e => by cases e; rfl, xwc_of h.2⟩
theorem xpm_438 : xPm xm_438 := have h := Bool.and_eq_true_iff.mp (List.all_eq_true.mp xpg_7 (18499, xm_438) (List.mem_of_getElem? (i := 18) rfl)); ⟨h.1, xok_438, fun i r e => by cases e; rfl, xwc_of h.2⟩
theorem xpm_439 : xPm xm_439 := have h := Bool.and_eq_true_iff.mp (List.all_eq_true.mp xpg_7 (18505, xm_439) (List.mem_of_getElem? (i := 19) rfl)); ⟨h.1, xok_439, fun i r e => by cases e; rfl, xwc_of h.2⟩
theorem xpm_440 : xPm xm_440 := have h := Bool.and_eq_true_iff.mp (List.all_eq_true.mp xpg_7 (18513, xm_440) (List.mem_of_getElem? (i := 20) rfl)); ⟨h.1, xok_440, fun i r e => by cases e; rfl, xwc_of h.2⟩
theorem xpm_441 : xPm xm_441 := have h := Bool.and_eq_true_iff.mp (List.all_eq_true.mp xpg_7 (18517, xm_441) (List.mem_of_getElem? (i := 21) rfl)); ⟨h.1, xok_441, fun i r e => by cases e; rfl, xwc_of h.2⟩
theorem xpm_442 : xPm xm_442 := have h := Bool.and_eq_true_iff.mp (List.all_eq_true.mp xpg_7 (18521, xm_442) (List.mem_of_getElem? (i := 22) rfl)); ⟨h.1, xok_442, fun i r e => by cases e; rfl, xwc_of h.2⟩
theorem xpm_443 : xPm xm_443 := have h := Bool.and_eq_true_iff.mp (List.all_eq_true.mp xpg_7 (18525, xm_443) (List.mem_of_getElem? (i := 23) rfl)); ⟨h.1, xok_443, fun i r e => by cases e; rfl, xwc_of h.2⟩
theorem xpm_444 : xPm xm_444 := have h := Bool.and_eq_true_iff.mp (List.all_eq_true.mp xpg_7 (18530, xm_444) (List.mem_of_getElem? (i := 24) rfl)); ⟨h.1, xok_444, fun i r e => by cases e; rfl, xwc_of h.2⟩
theorem xpm_445 : xPm xm_445 := have h := Bool.and_eq_true_iff.mp (List.all_eq_true.mp xpg_7 (18534, xm_445) (List.mem_of_getElem? (i := 25) rfl)); ⟨h.1, xok_445, fun i r e => by cases e; rfl, xwc_of h.2⟩
theorem xpm_446 : xPm xm_446 := have h := Bool.and_eq_true_iff.mp (List.all_eq_true.mp xpg_7 (18537, xm_446) (List.mem_of_getElem? (i := 26) rfl)); ⟨h.1, xok_446, fun i r e => by cases e; rfl, xwc_of h.2⟩
theorem xpm_447 : xPm xm_447 := have h := Bool.and_eq_true_iff.mp (List.all_eq_true.mp xpg_7 (18541, xm_447) (List.mem_of_getElem? (i := 27) rfl)); ⟨h.1, xok_447, fun i r e => by cases e; rfl, xwc_of h.2⟩
theorem xpm_448 : xPm xm_448 := have h := Bool.and_eq_true_iff.mp (List.all_eq_true.mp xpg_7 (18546, xm_448) (List.mem_of_getElem? (i := 28) rfl)); ⟨h.1, xok_448, fun i r e => by cases e; rfl, xwc_of h.2⟩
theorem xpm_449 : xPm xm_449 := have h := Bool.and_eq_true_iff.mp (List.all_eq_true.mp xpg_7 (18550, xm_449) (List.mem_of_getElem? (i := 29) rfl)); ⟨h.1, xok_449, fun i r e => by cases e; rfl, xwc_of h.2⟩
theorem xpm_450 : xPm xm_450 := have h := Bool.and_eq_true_iff.mp (List.all_eq_true.mp xpg_7 (18553, xm_450) (List.mem_of_getElem? (i := 30) rfl)); ⟨h.1, xok_450, fun i r e => by cases e; rfl, xwc_of h.2⟩
theorem xpm_451 : xPm xm_451 := have h := Bool.and_eq_true_iff.mp (List.all_eq_true.mp xpg_7 (18557, xm_451) (List.mem_of_getElem? (i := 31) rfl)); ⟨h.1, xok_451, fun i r e => by cases e; rfl, xwc_of h.2⟩
theorem xpm_452 : xPm xm_452 := have h := Bool.and_eq_true_iff.mp (List.all_eq_true.mp xpg_7 (18561, xm_452) (List.mem_of_getElem? (i := 32) rfl)); ⟨h.1, xok_452, fun i r e => by cases e; rfl, xwc_of h.2⟩
theorem xpm_453 : xPm xm_453 := have h := Bool.and_eq_true_iff.mp (List.all_eq_true.mp xpg_7 (18565, xm_453) (List.mem_of_getElem? (i := 33) rfl)); ⟨h.1, xok_453, fun i r e => by cases e; rfl, xwc_of h.2⟩
theorem xpm_454 : xPm xm_454 := have h := Bool.and_eq_true_iff.mp (List.all_eq_true.mp xpg_7 (18570, xm_454) (List.mem_of_getElem? (i := 34) rfl)); ⟨h.1, xok_454, fun i r e => by cases e; rfl, xwc_of h.2⟩
theorem xpm_455 : xPm xm_455 := have h := Bool.and_eq_true_iff.mp (List.all_eq_true.mp xpg_7 (18574, xm_455) (List.mem_of_getElem? (i := 35) rfl)); ⟨h.1, xok_455, fun i r e => by cases e; rfl, xwc_of h.2⟩
theorem xpm_456 : xPm xm_456 := have h := Bool.and_eq_true_iff.mp (List.all_eq_true.mp xpg_7 (18578, xm_456) (List.mem_of_getElem? (i := 36) rfl)); ⟨h.1, xok_456, fun i r e => by cases e; rfl, xwc_of h.2⟩
theorem xpm_457 : xPm xm_457 := have h := Bool.and_eq_true_iff.mp (List.all_eq_true.mp xpg_7 (18582, xm_457) (List.mem_of_getElem? (i := 37) rfl)); ⟨h.1, xok_457, fun i r e => by cases e; rfl, xwc_of h.2⟩
theorem xpm_458 : xPm xm_458 := have h := Bool.and_eq_true_iff.mp (List.all_eq_true.mp xpg_7 (18586, xm_458) (List.mem_of_getElem? (i := 38) rfl)); ⟨h.1, xok_458, fun i r e => by cases e; rfl, xwc_of h.2⟩
theorem xpm_459 : xPm xm_459 := have h := Bool.and_eq_true_iff.mp (List.all_eq_true.mp xpg_7 (18590, xm_459) (List.mem_of_getElem? (i := 39) rfl)); ⟨h.1, xok_459, fun i r e => by cases e; rfl, xwc_of h.2⟩
theorem xpm_460 : xPm xm_460 := have h := Bool.and_eq_true_iff.mp (List.all_eq_true.mp xpg_7 (18594, xm_460) (List.mem_of_getElem? (i := 40) rfl)); ⟨h.1, xok_460, fun i r e => by cases e; rfl, xwc_of h.2⟩
theorem xpm_461 : xPm xm_461 := have h := Bool.and_eq_true_iff.mp (List.all_eq_true.mp xpg_7 (18598, xm_461) (List.mem_of_getElem? (i := 41) rfl)); ⟨h.1, xok_461, fun i r e => by cases e; rfl, xwc_of h.2⟩
theorem xpm_462 : xPm xm_462 := have h := Bool.and_eq_true_iff.mp (List.all_eq_true.mp xpg_7 (18602, xm_462) (List.mem_of_getElem? (i := 42) rfl)); ⟨h.1, xok_462, fun i r e => by cases e; rfl, xwc_of h.2⟩
theorem xpm_463 : xPm xm_463 := have h := Bool.and_eq_true_iff.mp (List.all_eq_true.mp xpg_7 (18606, xm_463) (List.mem_of_getElem? (i := 43) rfl)); ⟨h.1, xok_463, fun i r e => by cases e; rfl, xwc_of h.2⟩
theorem xpm_464 : xPm xm_464 := have h := Bool.and_eq_true_iff.mp (List.all_eq_true.mp xpg_7 (18611, xm_464) (List.mem_of_getElem? (i := 44) rfl)); ⟨h.1, xok_464, fun i r e => by cases e; rfl, xwc_of h.2⟩
theorem xpm_465 : xPm xm_465 := have h := Bool.and_eq_true_iff.mp (List.all_eq_true.mp xpg_7 (18614, xm_465) (List.mem_of_getElem? (i := 45) rfl)); ⟨h.1, xok_465, fun i r e => by cases e; rfl, xwc_of h.2⟩
theorem xpm_466 : xPm xm_466 := have h := Bool.and_eq_true_iff.mp (List.all_eq_true.mp xpg_7 (18620, xm_466) (List.mem_of_getElem? (i := 46) rfl)); ⟨h.1, xok_466, fun i r e => by cases e; rfl, xwc_of h.2⟩
theorem xpm_467 : xPm xm_467 := have h := Bool.and_eq_true_iff.mp (List.all_eq_true.mp xpg_7 (18625, xm_467) (List.mem_of_getElem? (i := 47) rfl)); ⟨h.1, xok_467, fun i r e => by cases e; rfl, xwc_of h.2⟩
theorem xpm_468 : xPm xm_468 := have h := Bool.and_eq_true_iff.mp (List.all_eq_true.mp xpg_7 (18629, xm_468) (List.mem_of_getElem? (i := 48) rfl)); ⟨h.1, xok_468, fun i r e => by cases e; rfl, xwc_of h.2⟩
theorem xpm_469 : xPm xm_469 := have h := Bool.and_eq_true_iff.mp (List.all_eq_true.mp xpg_7 (18633, xm_469) (List.mem_of_getElem? (i := 49) rfl)); ⟨h.1, xok_469, fun i r e => by cases e; rfl, xwc_of h.2⟩
theorem xpm_470 : xPm xm_470 := have h := Bool.and_eq_true_iff.mp (List.all_eq_true.mp xpg_7 (18637, xm_470) (List.mem_of_getElem? (i := 50) rfl)); ⟨h.1, xok_470, fun i r e => by cases e; rfl, xwc_of h.2⟩
theorem xpm_471 : xPm xm_471 := have h := Bool.and_eq_true_iff.mp (List.all_eq_true.mp xpg_7 (18641, xm_471) (List.mem_of_getElem? (i := 51) rfl)); ⟨h.1, xok_471, fun i r e => by cases e; rfl, xwc_of h.2⟩
theorem xpm_472 : xPm xm_472 := have h := Bool.and_eq_true_iff.mp (List.all_eq_true.mp xpg_7 (18645, xm_472) (List.mem_of_getElem? (i := 52) rfl)); ⟨h.1, xok_472, fun i r e => by cases e; rfl, xwc_of h.2⟩
theorem xpm_473 : xPm xm_473 := have h := Bool.and_eq_true_iff.mp (List.all_eq_true.mp xpg_7 (18649, xm_473) (List.mem_of_getElem? (i := 53) rfl)); ⟨h.1, xok_473, fun i r e => by cases e; rfl, xwc_of h.2⟩
theorem xpm_474 : xPm xm_474 := have h := Bool.and_eq_true_iff.mp (List.all_eq_true.mp xpg_7 (18653, xm_474) (List.mem_of_getElem? (i := 54) rfl)); ⟨h.1, xok_474, fun i r e => by cases e; rfl, xwc_of h.2⟩
theorem xpm_475 : xPm xm_475 := have h := Bool.and_eq_true_iff.mp (List.all_eq_true.mp xpg_7 (18657, xm_475) (List.mem_of_getElem? (i := 55) rfl)); ⟨h.1, xok_475, fun i r e => by cases e; rfl, xwc_of h.2⟩
theorem xpm_476 : xPm xm_476 := have h := Bool.and_eq_true_iff.mp (List.all_eq_true.mp xpg_7 (18662, xm_476) (List.mem_of_getElem? (i := 56) rfl)); ⟨h.1, xok_476, fun i r e => by cases e; rfl, xwc_of h.2⟩
theorem xpm_477 : xPm xm_477 := have h := Bool.and_eq_true_iff.mp (List.all_eq_true.mp xpg_7 (18665, xm_477) (List.mem_of_getElem? (i := 57) rfl)); ⟨h.1, xok_477, fun i r e => by cases e; rfl, xwc_of h.2⟩
theorem xpm_478 : xPm xm_478 := have h := Bool.and_eq_true_iff.mp (List.all_eq_true.mp xpg_7 (18670, xm_478) (List.mem_of_getElem? (i := 58) rfl)); ⟨h.1, xok_478, fun i r e => by cases e; rfl, xwc_of h.2⟩
theorem xpm_479 : xPm xm_479 := have h := Bool.and_eq_true_iff.mp (List.all_eq_true.mp xpg_7 (19458, xm_479) (List.mem_of_getElem? (i := 59) rfl)); ⟨h.1, xok_479, fun i r e => by cases e; rfl, xwc_of h.2⟩
theorem xpm_480 : xPm xm_480 := have h := Bool.and_eq_true_iff.mp (List.all_eq_true.mp xpg_8 (19458, xm_480) (List.mem_of_getElem? (i := 0) rfl)); ⟨h.1, xok_480, fun i r e => by cases e; rfl, xwc_of h.2⟩
theorem xpm_481 : xPm xm_481 := have h := Bool.and_eq_true_iff.mp (List.all_eq_true.mp xpg_8 (19458, xm_481) (List.mem_of_getElem? (i := 1) rfl)); ⟨h.1, xok_481, fun i r e => by cases e; rfl, xwc_of h.2⟩
theorem xpm_482 : xPm xm_482 := have h := Bool.and_eq_true_iff.mp (List.all_eq_true.mp xpg_8 (19458, xm_482) (List.mem_of_getElem? (i := 2) rfl)); ⟨h.1, xok_482, fun i r e => by cases e; rfl, xwc_of h.2⟩
theorem xpm_483 : xPm xm_483 := have h := Bool.and_eq_true_iff.mp (List.all_eq_true.mp xpg_8 (19458, xm_483) (List.mem_of_getElem? (i := 3) rfl)); ⟨h.1, xok_483, fun i r e => by cases e; rfl, xwc_of h.2⟩
theorem xpm_484 : xPm xm_484 := have h := Bool.and_eq_true_iff.mp (List.all_eq_true.mp xpg_8 (19458, xm_484) (List.mem_of_getElem? (i := 4) rfl)); ⟨h.1, xok_484, fun i r e => by cases e; rfl, xwc_of h.2⟩
theorem xpm_485 : xPm xm_485 := have h := Bool.and_eq_true_iff.mp (List.all_eq_true.mp xpg_8 (19458, xm_485) (List.mem_of_getElem? (i := 5) rfl)); ⟨h.1, xok_485, fun i r e => by cases e; rfl, xwc_of h.2⟩
theorem xpm_486 : xPm xm_486 := have h := Bool.and_eq_true_iff.mp (List.all_eq_true.mp xpg_8 (19458, xm_486) (List.mem_of_getElem? (i := 6) rfl)); ⟨h.1, xok_486, fun i r e => by cases e; rfl, xwc_of h.2⟩
theorem xpm_487 : xPm xm_487 := have h := Bool.and_eq_true_iff.mp (List.all_eq_true.mp xpg_8 (19463, xm_487) (List.mem_of_getElem? (i := 7) rfl)); ⟨h.1, xok_487, fun i r e => by cases e; rfl, xwc_of h.2⟩
theorem xpm_488 : xPm xm_488 := have h := Bool.and_eq_true_iff.mp (List.all_eq_true.mp xpg_8 (19467, xm_488) (List.mem_of_getElem? (i := 8) rfl)); ⟨h.1, xok_488, fun i r e => by cases e; rfl, xwc_of h.2⟩
theorem xpm_489 : xPm xm_489 := have h := Bool.and_eq_true_iff.mp (List.all_eq_true.mp xpg_8 (19471, xm_489) (List.mem_of_getElem? (i := 9) rfl)); ⟨h.1, xok_489, fun i r e => by cases e; rfl, xwc_of h.2⟩
theorem xpm_490 : xPm xm_490 := have h := Bool.and_eq_true_iff.mp (List.all_eq_true.mp xpg_8 (19475, xm_490) (List.mem_of_getElem? (i := 10) rfl)); ⟨h.1, xok_490, fun i r e => by cases e; rfl, xwc_of h.2⟩
theorem xpm_491 : xPm xm_491 := have h := Bool.and_eq_true_iff.mp (List.all_eq_true.mp xpg_8 (19479, xm_491) (List.mem_of_getElem? (i := 11) rfl)); ⟨h.1, xok_491, fun i r e => by cases e; rfl, xwc_of h.2⟩
theorem xpm_492 : xPm xm_492 := have h := Bool.and_eq_true_iff.mp (List.all_eq_true.mp xpg_8 (19483, xm_492) (List.mem_of_getElem? (i := 12) rfl)); ⟨h.1, xok_492, fun i r e => by cases e; rfl, xwc_of h.2⟩
theorem xpm_493 : xPm xm_493 := have h := Bool.and_eq_true_iff.mp (List.all_eq_true.mp xpg_8 (19487, xm_493) (List.mem_of_getElem? (i := 13) rfl)); ⟨h.1, xok_493, fun i r e => by cases e; rfl, xwc_of h.2⟩
theorem xpm_494 : xPm xm_494 := have h := Bool.and_eq_true_iff.mp (List.all_eq_true.mp xpg_8 (19491, xm_494) (List.mem_of_getElem? (i := 14) rfl)); ⟨h.1, xok_494, fun i r e => by cases e; rfl, xwc_of h.2⟩
theorem xpm_495 : xPm xm_495 := have h := Bool.and_eq_true_iff.mp (List.all_eq_true.mp xpg_8 (19495, xm_495) (List.mem_of_getElem? (i := 15) rfl)); ⟨h.1, xok_495, fun i r e => by cases e; rfl, xwc_of h.2⟩
theorem xpm_496 : xPm xm_496 := have h := Bool.and_eq_true_iff.mp (List.all_eq_true.mp xpg_8 (19499, xm_496) (List.mem_of_getElem? (i := 16) rfl)); ⟨h.1, xok_496, fun i r e => by cases e; rfl, xwc_of h.2⟩
theorem xpm_497 : xPm xm_497 := have h := Bool.and_eq_true_iff.mp (List.all_eq_true.mp xpg_8 (19503, xm_497) (List.mem_of_getElem? (i := 17) rfl)); ⟨h.1, xok_497, fun i r e => by cases e; rfl, xwc_of h.2⟩
theorem xpm_498 : xPm xm_498 := have h := Bool.and_eq_true_iff.mp (List.all_eq_true.mp xpg_8 (10321, xm_498) (List.mem_of_getElem? (i := 18) rfl)); ⟨h.1, xok_498, fun i r e => by cases e; rfl, xwc_of h.2⟩
theorem xpm_499 : xPm xm_499 := have h := Bool.and_eq_true_iff.mp (List.all_eq_true.mp xpg_8 (14531, xm_499) (List.mem_of_getElem? (i := 19) rfl)); ⟨h.1, xok_499, fun i r e => by cases e; rfl, xwc_of h.2⟩
theorem xpm_500 : xPm xm_500 := have h := Bool.and_eq_true_iff.mp (List.all_eq_true.mp xpg_8 (15431, xm_500) (List.mem_of_getElem? (i := 20) rfl)); ⟨h.1, xok_500, fun i r e => by cases e; rfl, xwc_of h.2⟩
set_option maxRecDepth 100000 in
theorem xG2 : ∀ mc ∈ xMs, xPm mc := List.forall_mem_cons.mpr ⟨xpm_0, List.forall_mem_cons.mpr ⟨xpm_1, List.forall_mem_cons.mpr ⟨xpm_2, List.forall_mem_cons.mpr ⟨xpm_3, List.forall_mem_cons.mpr ⟨xpm_4, List.forall_mem_cons.mpr ⟨xpm_5, List.forall_mem_cons.mpr ⟨xpm_6, List.forall_mem_cons.mpr ⟨xpm_7, List.forall_mem_cons.mpr ⟨xpm_8, List.forall_mem_cons.mpr ⟨xpm_9, List.forall_mem_cons.mpr ⟨xpm_10, List.forall_mem_cons.mpr ⟨xpm_11, List.forall_mem_cons.mpr ⟨xpm_12, List.forall_mem_cons.mpr ⟨xpm_13, List.forall_mem_cons.mpr ⟨xpm_14, List.forall_mem_cons.mpr ⟨xpm_15, List.forall_mem_cons.mpr ⟨xpm_16, List.forall_mem_cons.mpr ⟨xpm_17, List.forall_mem_cons.mpr ⟨xpm_18, List.forall_mem_cons.mpr ⟨xpm_19, List.forall_mem_cons.mpr ⟨xpm_20, List.forall_mem_cons.mpr ⟨xpm_21, List.forall_mem_cons.mpr ⟨xpm_22, List.forall_mem_cons.mpr ⟨xpm_23, List.forall_mem_cons.mpr ⟨xpm_24, List.forall_mem_cons.mpr ⟨xpm_25, List.forall_mem_cons.mpr ⟨xpm_26, List.forall_mem_cons.mpr ⟨xpm_27, List.forall_mem_cons.mpr ⟨xpm_28, List.forall_mem_cons.mpr ⟨xpm_29, List.forall_mem_cons.mpr ⟨xpm_30, List.forall_mem_cons.mpr ⟨xpm_31, List.forall_mem_cons.mpr ⟨xpm_32, List.forall_mem_cons.mpr ⟨xpm_33, List.forall_mem_cons.mpr ⟨xpm_34, List.forall_mem_cons.mpr ⟨xpm_35, List.forall_mem_cons.mpr ⟨xpm_36, List.forall_mem_cons.mpr ⟨xpm_37, List.forall_mem_cons.mpr ⟨xpm_38, List.forall_mem_cons.mpr ⟨xpm_39, List.forall_mem_cons.mpr ⟨xpm_40, List.forall_mem_cons.mpr ⟨xpm_41, List.forall_mem_cons.mpr ⟨xpm_42, List.forall_mem_cons.mpr ⟨xpm_43, List.forall_mem_cons.mpr ⟨xpm_44, List.forall_mem_cons.mpr ⟨xpm_45, List.forall_mem_cons.mpr ⟨xpm_46, List.forall_mem_cons.mpr ⟨xpm_47, List.forall_mem_cons.mpr ⟨xpm_48, List.forall_mem_cons.mpr ⟨xpm_49, List.forall_mem_cons.mpr ⟨xpm_50, List.forall_mem_cons.mpr ⟨xpm_51, List.forall_mem_cons.mpr ⟨xpm_52, List.forall_mem_cons.mpr ⟨xpm_53, List.forall_mem_cons.mpr ⟨xpm_54, List.forall_mem_cons.mpr ⟨xpm_55, List.forall_mem_cons.mpr ⟨xpm_56, List.forall_mem_cons.mpr ⟨xpm_57, List.forall_mem_cons.mpr ⟨xpm_58, List.forall_mem_cons.mpr ⟨xpm_59, List.forall_mem_cons.mpr ⟨xpm_60, List.forall_mem_cons.mpr ⟨xpm_61, List.forall_mem_cons.mpr ⟨xpm_62, List.forall_mem_cons.mpr ⟨xpm_63, List.forall_mem_cons.mpr ⟨xpm_64, List.forall_mem_cons.mpr ⟨xpm_65, List.forall_mem_cons.mpr ⟨xpm_66, List.forall_mem_cons.mpr ⟨xpm_67, List.forall_mem_cons.mpr ⟨xpm_68, List.forall_mem_cons.mpr ⟨xpm_69, List.forall_mem_cons.mpr ⟨xpm_70, List.forall_mem_cons.mpr ⟨xpm_71, List.forall_mem_cons.mpr ⟨xpm_72, List.forall_mem_cons.mpr ⟨xpm_73, List.forall_mem_cons.mpr ⟨xpm_74, List.forall_mem_cons.mpr ⟨xpm_75, List.forall_mem_cons.mpr ⟨xpm_76, List.forall_mem_cons.mpr ⟨xpm_77, List.forall_mem_cons.mpr ⟨xpm_78, List.forall_mem_cons.mpr ⟨xpm_79, List.forall_mem_cons.mpr ⟨xpm_80, List.forall_mem_cons.mpr ⟨xpm_81, List.forall_mem_cons.mpr ⟨xpm_82, List.forall_mem_cons.mpr ⟨xpm_83, List.forall_mem_cons.mpr ⟨xpm_84, List.forall_mem_cons.mpr ⟨xpm_85, List.forall_mem_cons.mpr ⟨xpm_86, List.forall_mem_cons.mpr ⟨xpm_87, List.forall_mem_cons.mpr ⟨xpm_88, List.forall_mem_cons.mpr ⟨xpm_89, List.forall_mem_cons.mpr ⟨xpm_90, List.forall_mem_cons.mpr ⟨xpm_91, List.forall_mem_cons.mpr ⟨xpm_92, List.forall_mem_cons.mpr ⟨xpm_93, List.forall_mem_cons.mpr ⟨xpm_94, List.forall_mem_cons.mpr ⟨xpm_95, List.forall_mem_cons.mpr ⟨xpm_96, List.forall_mem_cons.mpr ⟨xpm_97, List.forall_mem_cons.mpr ⟨xpm_98, List.forall_mem_cons.mpr ⟨xpm_99, List.forall_mem_cons.mpr ⟨xpm_100, List.forall_mem_cons.mpr ⟨xpm_101, List.forall_mem_cons.mpr ⟨xpm_102, List.forall_mem_cons.mpr ⟨xpm_103, List.forall_mem_cons.mpr ⟨xpm_104, List.forall_mem_cons.mpr ⟨xpm_105, List.forall_mem_cons.mpr ⟨xpm_106, List.forall_mem_cons.mpr ⟨xpm_107, List.forall_mem_cons.mpr ⟨xpm_108, List.forall_mem_cons.mpr ⟨xpm_109, List.forall_mem_cons.mpr ⟨xpm_110, List.forall_mem_cons.mpr ⟨xpm_111, List.forall_mem_cons.mpr ⟨xpm_112, List.forall_mem_cons.mpr ⟨xpm_113, List.forall_mem_cons.mpr ⟨xpm_114, List.forall_mem_cons.mpr ⟨xpm_115, List.forall_mem_cons.mpr ⟨xpm_116, List.forall_mem_cons.mpr ⟨xpm_117, List.forall_mem_cons.mpr ⟨xpm_118, List.forall_mem_cons.mpr ⟨xpm_119, List.forall_mem_cons.mpr ⟨xpm_120, List.forall_mem_cons.mpr ⟨xpm_121, List.forall_mem_cons.mpr ⟨xpm_122, List.forall_mem_cons.mpr ⟨xpm_123, List.forall_mem_cons.mpr ⟨xpm_124, List.forall_mem_cons.mpr ⟨xpm_125, List.forall_mem_cons.mpr ⟨xpm_126, List.forall_mem_cons.mpr ⟨xpm_127, List.forall_mem_cons.mpr ⟨xpm_128, List.forall_mem_cons.mpr ⟨xpm_129, List.forall_mem_cons.mpr ⟨xpm_130, List.forall_mem_cons.mpr ⟨xpm_131, List.forall_mem_cons.mpr ⟨xpm_132, List.forall_mem_cons.mpr ⟨xpm_133, List.forall_mem_cons.mpr ⟨xpm_134, List.forall_mem_cons.mpr ⟨xpm_135, List.forall_mem_cons.mpr ⟨xpm_136, List.forall_mem_cons.mpr ⟨xpm_137, List.forall_mem_cons.mpr ⟨xpm_138, List.forall_mem_cons.mpr ⟨xpm_139, List.forall_mem_cons.mpr ⟨xpm_140, List.forall_mem_cons.mpr ⟨xpm_141, List.forall_mem_cons.mpr ⟨xpm_142, List.forall_mem_cons.mpr ⟨xpm_143, List.forall_mem_cons.mpr ⟨xpm_144, List.forall_mem_cons.mpr ⟨xpm_145, List.forall_mem_cons.mpr ⟨xpm_146, List.forall_mem_cons.mpr ⟨xpm_147, List.forall_mem_cons.mpr ⟨xpm_148, List.forall_mem_cons.mpr ⟨xpm_149, List.forall_mem_cons.mpr ⟨xpm_150, List.forall_mem_cons.mpr ⟨xpm_151, List.forall_mem_cons.mpr ⟨xpm_152, List.forall_mem_cons.mpr ⟨xpm_153, List.forall_mem_cons.mpr ⟨xpm_154, List.forall_mem_cons.mpr ⟨xpm_155, List.forall_mem_cons.mpr ⟨xpm_156, List.forall_mem_cons.mpr ⟨xpm_157, List.forall_mem_cons.mpr ⟨xpm_158, List.forall_mem_cons.mpr ⟨xpm_159, List.forall_mem_cons.mpr ⟨xpm_160, List.forall_mem_cons.mpr ⟨xpm_161, List.forall_mem_cons.mpr ⟨xpm_162, List.forall_mem_cons.mpr ⟨xpm_163, List.forall_mem_cons.mpr ⟨xpm_164, List.forall_mem_cons.mpr ⟨xpm_165, List.forall_mem_cons.mpr ⟨xpm_166, List.forall_mem_cons.mpr ⟨xpm_167, List.forall_mem_cons.mpr ⟨xpm_168, List.forall_mem_cons.mpr ⟨xpm_169, List.forall_mem_cons.mpr ⟨xpm_170, List.forall_mem_cons.mpr ⟨xpm_171, List.forall_mem_cons.mpr ⟨xpm_172, List.forall_mem_cons.mpr ⟨xpm_173, List.forall_mem_cons.mpr ⟨xpm_174, List.forall_mem_cons.mpr ⟨xpm_175, List.forall_mem_cons.mpr ⟨xpm_176, List.forall_mem_cons.mpr ⟨xpm_177, List.forall_mem_cons.mpr ⟨xpm_178, List.forall_mem_cons.mpr ⟨xpm_179, List.forall_mem_cons.mpr ⟨xpm_180, List.forall_mem_cons.mpr ⟨xpm_181, List.forall_mem_cons.mpr ⟨xpm_182, List.forall_mem_cons.mpr ⟨xpm_183, List.forall_mem_cons.mpr ⟨xpm_184, List.forall_mem_cons.mpr ⟨xpm_185, List.forall_mem_cons.mpr ⟨xpm_186, List.forall_mem_cons.mpr ⟨xpm_187, List.forall_mem_cons.mpr ⟨xpm_188, List.forall_mem_cons.mpr ⟨xpm_189, List.forall_mem_cons.mpr ⟨xpm_190, List.forall_mem_cons.mpr ⟨xpm_191, List.forall_mem_cons.mpr ⟨xpm_192, List.forall_mem_cons.mpr ⟨xpm_193, List.forall_mem_cons.mpr ⟨xpm_194, List.forall_mem_cons.mpr ⟨xpm_195, List.forall_mem_cons.mpr ⟨xpm_196, List.forall_mem_cons.mpr ⟨xpm_197, List.forall_mem_cons.mpr ⟨xpm_198, List.forall_mem_cons.mpr ⟨xpm_199, List.forall_mem_cons.mpr ⟨xpm_200, List.forall_mem_cons.mpr ⟨xpm_201, List.forall_mem_cons.mpr ⟨xpm_202, List.forall_mem_cons.mpr ⟨xpm_203, List.forall_mem_cons.mpr ⟨xpm_204, List.forall_mem_cons.mpr ⟨xpm_205, List.forall_mem_cons.mpr ⟨xpm_206, List.forall_mem_cons.mpr ⟨xpm_207, List.forall_mem_cons.mpr ⟨xpm_208, List.forall_mem_cons.mpr ⟨xpm_209, List.forall_mem_cons.mpr ⟨xpm_210, List.forall_mem_cons.mpr ⟨xpm_211, List.forall_mem_cons.mpr ⟨xpm_212, List.forall_mem_cons.mpr ⟨xpm_213, List.forall_mem_cons.mpr ⟨xpm_214, List.forall_mem_cons.mpr ⟨xpm_215, List.forall_mem_cons.mpr ⟨xpm_216, List.forall_mem_cons.mpr ⟨xpm_217, List.forall_mem_cons.mpr ⟨xpm_218, List.forall_mem_cons.mpr ⟨xpm_219, List.forall_mem_cons.mpr ⟨xpm_220, List.forall_mem_cons.mpr ⟨xpm_221, List.forall_mem_cons.mpr ⟨xpm_222, List.forall_mem_cons.mpr ⟨xpm_223, List.forall_mem_cons.mpr ⟨xpm_224, List.forall_mem_cons.mpr ⟨xpm_225, List.forall_mem_cons.mpr ⟨xpm_226, List.forall_mem_cons.mpr ⟨xpm_227, List.forall_mem_cons.mpr ⟨xpm_228, List.forall_mem_cons.mpr ⟨xpm_229, List.forall_mem_cons.mpr ⟨xpm_230, List.forall_mem_cons.mpr ⟨xpm_231, List.forall_mem_cons.mpr ⟨xpm_232, List.forall_mem_cons.mpr ⟨xpm_233, List.forall_mem_cons.mpr ⟨xpm_234, List.forall_mem_cons.mpr ⟨xpm_235, List.forall_mem_cons.mpr ⟨xpm_236, List.forall_mem_cons.mpr ⟨xpm_237, List.forall_mem_cons.mpr ⟨xpm_238, List.forall_mem_cons.mpr ⟨xpm_239, List.forall_mem_cons.mpr ⟨xpm_240, List.forall_mem_cons.mpr ⟨xpm_241, List.forall_mem_cons.mpr ⟨xpm_242, List.forall_mem_cons.mpr ⟨xpm_243, List.forall_mem_cons.mpr ⟨xpm_244, List.forall_mem_cons.mpr ⟨xpm_245, List.forall_mem_cons.mpr ⟨xpm_246, List.forall_mem_cons.mpr ⟨xpm_247, List.forall_mem_cons.mpr ⟨xpm_248, List.forall_mem_cons.mpr ⟨xpm_249, List.forall_mem_cons.mpr ⟨xpm_250, List.forall_mem_cons.mpr ⟨xpm_251, List.forall_mem_cons.mpr ⟨xpm_252, List.forall_mem_cons.mpr ⟨xpm_253, List.forall_mem_cons.mpr ⟨xpm_254, List.forall_mem_cons.mpr ⟨xpm_255, List.forall_mem_cons.mpr ⟨xpm_256, List.forall_mem_cons.mpr ⟨xpm_257, List.forall_mem_cons.mpr ⟨xpm_258, List.forall_mem_cons.mpr ⟨xpm_259, List.forall_mem_cons.mpr ⟨xpm_260, List.forall_mem_cons.mpr ⟨xpm_261, List.forall_mem_cons.mpr ⟨xpm_262, List.forall_mem_cons.mpr ⟨xpm_263, List.forall_mem_cons.mpr ⟨xpm_264, List.forall_mem_cons.mpr ⟨xpm_265, List.forall_mem_cons.mpr ⟨xpm_266, List.forall_mem_cons.mpr ⟨xpm_267, List.forall_mem_cons.mpr ⟨xpm_268, List.forall_mem_cons.mpr ⟨xpm_269, List.forall_mem_cons.mpr ⟨xpm_270, List.forall_mem_cons.mpr ⟨xpm_271, List.forall_mem_cons.mpr ⟨xpm_272, List.forall_mem_cons.mpr ⟨xpm_273, List.forall_mem_cons.mpr ⟨xpm_274, List.forall_mem_cons.mpr ⟨xpm_275, List.forall_mem_cons.mpr ⟨xpm_276, List.forall_mem_cons.mpr ⟨xpm_277, List.forall_mem_cons.mpr ⟨xpm_278, List.forall_mem_cons.mpr ⟨xpm_279, List.forall_mem_cons.mpr ⟨xpm_280, List.forall_mem_cons.mpr ⟨xpm_281, List.forall_mem_cons.mpr ⟨xpm_282, List.forall_mem_cons.mpr ⟨xpm_283, List.forall_mem_cons.mpr ⟨xpm_284, List.forall_mem_cons.mpr ⟨xpm_285, List.forall_mem_cons.mpr ⟨xpm_286, List.forall_mem_cons.mpr ⟨xpm_287, List.forall_mem_cons.mpr ⟨xpm_288, List.forall_mem_cons.mpr ⟨xpm_289, List.forall_mem_cons.mpr ⟨xpm_290, List.forall_mem_cons.mpr ⟨xpm_291, List.forall_mem_cons.mpr ⟨xpm_292, List.forall_mem_cons.mpr ⟨xpm_293, List.forall_mem_cons.mpr ⟨xpm_294, List.forall_mem_cons.mpr ⟨xpm_295, List.forall_mem_cons.mpr ⟨xpm_296, List.forall_mem_cons.mpr ⟨xpm_297, List.forall_mem_cons.mpr ⟨xpm_298, List.forall_mem_cons.mpr ⟨xpm_299, List.forall_mem_cons.mpr ⟨xpm_300, List.forall_mem_cons.mpr ⟨xpm_301, List.forall_mem_cons.mpr ⟨xpm_302, List.forall_mem_cons.mpr ⟨xpm_303, List.forall_mem_cons.mpr ⟨xpm_304, List.forall_mem_cons.mpr ⟨xpm_305, List.forall_mem_cons.mpr ⟨xpm_306, List.forall_mem_cons.mpr ⟨xpm_307, List.forall_mem_cons.mpr ⟨xpm_308, List.forall_mem_cons.mpr ⟨xpm_309, List.forall_mem_cons.mpr ⟨xpm_310, List.forall_mem_cons.mpr ⟨xpm_311, List.forall_mem_cons.mpr ⟨xpm_312, List.forall_mem_cons.mpr ⟨xpm_313, List.forall_mem_cons.mpr ⟨xpm_314, List.forall_mem_cons.mpr ⟨xpm_315, List.forall_mem_cons.mpr ⟨xpm_316, List.forall_mem_cons.mpr ⟨xpm_317, List.forall_mem_cons.mpr ⟨xpm_318, List.forall_mem_cons.mpr ⟨xpm_319, List.forall_mem_cons.mpr ⟨xpm_320, List.forall_mem_cons.mpr ⟨xpm_321, List.forall_mem_cons.mpr ⟨xpm_322, List.forall_mem_cons.mpr ⟨xpm_323, List.forall_mem_cons.mpr ⟨xpm_324, List.forall_mem_cons.mpr ⟨xpm_325, List.forall_mem_cons.mpr ⟨xpm_326, List.forall_mem_cons.mpr ⟨xpm_327, List.forall_mem_cons.mpr ⟨xpm_328, List.forall_mem_cons.mpr ⟨xpm_329, List.forall_mem_cons.mpr ⟨xpm_330, List.forall_mem_cons.mpr ⟨xpm_331, List.forall_mem_cons.mpr ⟨xpm_332, List.forall_mem_cons.mpr ⟨xpm_333, List.forall_mem_cons.mpr ⟨xpm_334, List.forall_mem_cons.mpr ⟨xpm_335, List.forall_mem_cons.mpr ⟨xpm_336, List.forall_mem_cons.mpr ⟨xpm_337, List.forall_mem_cons.mpr ⟨xpm_338, List.forall_mem_cons.mpr ⟨xpm_339, List.forall_mem_cons.mpr ⟨xpm_340, List.forall_mem_cons.mpr ⟨xpm_341, List.forall_mem_cons.mpr ⟨xpm_342, List.forall_mem_cons.mpr ⟨xpm_343, List.forall_mem_cons.mpr ⟨xpm_344, List.forall_mem_cons.mpr ⟨xpm_345, List.forall_mem_cons.mpr ⟨xpm_346, List.forall_mem_cons.mpr ⟨xpm_347, List.forall_mem_cons.mpr ⟨xpm_348, List.forall_mem_cons.mpr ⟨xpm_349, List.forall_mem_cons.mpr ⟨xpm_350, List.forall_mem_cons.mpr ⟨xpm_351, List.forall_mem_cons.mpr ⟨xpm_352, List.forall_mem_cons.mpr ⟨xpm_353, List.forall_mem_cons.mpr ⟨xpm_354, List.forall_mem_cons.mpr ⟨xpm_355, List.forall_mem_cons.mpr ⟨xpm_356, List.forall_mem_cons.mpr ⟨xpm_357, List.forall_mem_cons.mpr ⟨xpm_358, List.forall_mem_cons.mpr ⟨xpm_359, List.forall_mem_cons.mpr ⟨xpm_360, List.forall_mem_cons.mpr ⟨xpm_361, List.forall_mem_cons.mpr ⟨xpm_362, List.forall_mem_cons.mpr ⟨xpm_363, List.forall_mem_cons.mpr ⟨xpm_364, List.forall_mem_cons.mpr ⟨xpm_365, List.forall_mem_cons.mpr ⟨xpm_366, List.forall_mem_cons.mpr ⟨xpm_367, List.forall_mem_cons.mpr ⟨xpm_368, List.forall_mem_cons.mpr ⟨xpm_369, List.forall_mem_cons.mpr ⟨xpm_370, List.forall_mem_cons.mpr ⟨xpm_371, List.forall_mem_cons.mpr ⟨xpm_372, List.forall_mem_cons.mpr ⟨xpm_373, List.forall_mem_cons.mpr ⟨xpm_374, List.forall_mem_cons.mpr ⟨xpm_375, List.forall_mem_cons.mpr ⟨xpm_376, List.forall_mem_cons.mpr ⟨xpm_377, List.forall_mem_cons.mpr ⟨xpm_378, List.forall_mem_cons.mpr ⟨xpm_379, List.forall_mem_cons.mpr ⟨xpm_380, List.forall_mem_cons.mpr ⟨xpm_381, List.forall_mem_cons.mpr ⟨xpm_382, List.forall_mem_cons.mpr ⟨xpm_383, List.forall_mem_cons.mpr ⟨xpm_384, List.forall_mem_cons.mpr ⟨xpm_385, List.forall_mem_cons.mpr ⟨xpm_386, List.forall_mem_cons.mpr ⟨xpm_387, List.forall_mem_cons.mpr ⟨xpm_388, List.forall_mem_cons.mpr ⟨xpm_389, List.forall_mem_cons.mpr ⟨xpm_390, List.forall_mem_cons.mpr ⟨xpm_391, List.forall_mem_cons.mpr ⟨xpm_392, List.forall_mem_cons.mpr ⟨xpm_393, List.forall_mem_cons.mpr ⟨xpm_394, List.forall_mem_cons.mpr ⟨xpm_395, List.forall_mem_cons.mpr ⟨xpm_396, List.forall_mem_cons.mpr ⟨xpm_397, List.forall_mem_cons.mpr ⟨xpm_398, List.forall_mem_cons.mpr ⟨xpm_399, List.forall_mem_cons.mpr ⟨xpm_400, List.forall_mem_cons.mpr ⟨xpm_401, List.forall_mem_cons.mpr ⟨xpm_402, List.forall_mem_cons.mpr ⟨xpm_403, List.forall_mem_cons.mpr ⟨xpm_404, List.forall_mem_cons.mpr ⟨xpm_405, List.forall_mem_cons.mpr ⟨xpm_406, List.forall_mem_cons.mpr ⟨xpm_407, List.forall_mem_cons.mpr ⟨xpm_408, List.forall_mem_cons.mpr ⟨xpm_409, List.forall_mem_cons.mpr ⟨xpm_410, List.forall_mem_cons.mpr ⟨xpm_411, List.forall_mem_cons.mpr ⟨xpm_412, List.forall_mem_cons.mpr ⟨xpm_413, List.forall_mem_cons.mpr ⟨xpm_414, List.forall_mem_cons.mpr ⟨xpm_415, List.forall_mem_cons.mpr ⟨xpm_416, List.forall_mem_cons.mpr ⟨xpm_417, List.forall_mem_cons.mpr ⟨xpm_418, List.forall_mem_cons.mpr ⟨xpm_419, List.forall_mem_cons.mpr ⟨xpm_420, List.forall_mem_cons.mpr ⟨xpm_421, List.forall_mem_cons.mpr ⟨xpm_422, List.forall_mem_cons.mpr ⟨xpm_423, List.forall_mem_cons.mpr ⟨xpm_424, List.forall_mem_cons.mpr ⟨xpm_425, List.forall_mem_cons.mpr ⟨xpm_426, List.forall_mem_cons.mpr ⟨xpm_427, List.forall_mem_cons.mpr ⟨xpm_428, List.forall_mem_cons.mpr ⟨xpm_429, List.forall_mem_cons.mpr ⟨xpm_430, List.forall_mem_cons.mpr ⟨xpm_431, List.forall_mem_cons.mpr ⟨xpm_432, List.forall_mem_cons.mpr ⟨xpm_433, List.forall_mem_cons.mpr ⟨xpm_434, List.forall_mem_cons.mpr ⟨xpm_435, List.forall_mem_cons.mpr ⟨xpm_436, List.forall_mem_cons.mpr ⟨xpm_437, List.forall_mem_cons.mpr ⟨xpm_438, List.forall_mem_cons.mpr ⟨xpm_439, List.forall_mem_cons.mpr ⟨xpm_440, List.forall_mem_cons.mpr ⟨xpm_441, List.forall_mem_cons.mpr ⟨xpm_442, List.forall_mem_cons.mpr ⟨xpm_443, List.forall_mem_cons.mpr ⟨xpm_444, List.forall_mem_cons.mpr ⟨xpm_445, List.forall_mem_cons.mpr ⟨xpm_446, List.forall_mem_cons.mpr ⟨xpm_447, List.forall_mem_cons.mpr ⟨xpm_448, List.forall_mem_cons.mpr ⟨xpm_449, List.forall_mem_cons.mpr ⟨xpm_450, List.forall_mem_cons.mpr ⟨xpm_451, List.forall_mem_cons.mpr ⟨xpm_452, List.forall_mem_cons.mpr ⟨xpm_453, List.forall_mem_cons.mpr ⟨xpm_454, List.forall_mem_cons.mpr ⟨xpm_455, List.forall_mem_cons.mpr ⟨xpm_456, List.forall_mem_cons.mpr ⟨xpm_457, List.forall_mem_cons.mpr ⟨xpm_458, List.forall_mem_cons.mpr ⟨xpm_459, List.forall_mem_cons.mpr ⟨xpm_460, List.forall_mem_cons.mpr ⟨xpm_461, List.forall_mem_cons.mpr ⟨xpm_462, List.forall_mem_cons.mpr ⟨xpm_463, List.forall_mem_cons.mpr ⟨xpm_464, List.forall_mem_cons.mpr ⟨xpm_465, List.forall_mem_cons.mpr ⟨xpm_466, List.forall_mem_cons.mpr ⟨xpm_467, List.forall_mem_cons.mpr ⟨xpm_468, List.forall_mem_cons.mpr ⟨xpm_469, List.forall_mem_cons.mpr ⟨xpm_470, List.forall_mem_cons.mpr ⟨xpm_471, List.forall_mem_cons.mpr ⟨xpm_472, List.forall_mem_cons.mpr ⟨xpm_473, List.forall_mem_cons.mpr ⟨xpm_474, List.forall_mem_cons.mpr ⟨xpm_475, List.forall_mem_cons.mpr ⟨xpm_476, List.forall_mem_cons.mpr ⟨xpm_477, List.forall_mem_cons.mpr ⟨xpm_478, List.forall_mem_cons.mpr ⟨xpm_479, List.forall_mem_cons.mpr ⟨xpm_480, List.forall_mem_cons.mpr ⟨xpm_481, List.forall_mem_cons.mpr ⟨xpm_482, List.forall_mem_cons.mpr ⟨xpm_483, List.forall_mem_cons.mpr ⟨xpm_484, List.forall_mem_cons.mpr ⟨xpm_485, List.forall_mem_cons.mpr ⟨xpm_486, List.forall_mem_cons.mpr ⟨xpm_487, List.forall_mem_cons.mpr ⟨xpm_488, List.forall_mem_cons.mpr ⟨xpm_489, List.forall_mem_cons.mpr ⟨xpm_490, List.forall_mem_cons.mpr ⟨xpm_491, List.forall_mem_cons.mpr ⟨xpm_492, List.forall_mem_cons.mpr ⟨xpm_493, List.forall_mem_cons.mpr ⟨xpm_494, List.forall_mem_cons.mpr ⟨xpm_495, List.forall_mem_cons.mpr ⟨xpm_496, List.forall_mem_cons.mpr ⟨xpm_497, List.forall_mem_cons.mpr ⟨xpm_498, List.forall_mem_cons.mpr ⟨xpm_499, List.forall_mem_cons.mpr ⟨xpm_500, fun _ h => absurd h List.not_mem_nil⟩⟩⟩⟩⟩⟩⟩⟩⟩⟩⟩⟩⟩⟩⟩⟩⟩⟩⟩⟩⟩⟩⟩⟩⟩⟩⟩⟩⟩⟩⟩⟩⟩⟩⟩⟩⟩⟩⟩⟩⟩⟩⟩⟩⟩⟩⟩⟩⟩⟩⟩⟩⟩⟩⟩⟩⟩⟩⟩⟩⟩⟩⟩⟩⟩⟩⟩⟩⟩⟩⟩⟩⟩⟩⟩⟩⟩⟩⟩⟩⟩⟩⟩⟩⟩⟩⟩⟩⟩⟩⟩⟩⟩⟩⟩⟩⟩⟩⟩⟩⟩⟩⟩⟩⟩⟩⟩⟩⟩⟩⟩⟩⟩⟩⟩⟩⟩⟩⟩⟩⟩⟩⟩⟩⟩⟩⟩⟩⟩⟩⟩⟩⟩⟩⟩⟩⟩⟩⟩⟩⟩⟩⟩⟩⟩⟩⟩⟩⟩⟩⟩⟩⟩⟩⟩⟩⟩⟩⟩⟩⟩⟩⟩⟩⟩⟩⟩⟩⟩⟩⟩⟩⟩⟩⟩⟩⟩⟩⟩⟩⟩⟩⟩⟩⟩⟩⟩⟩⟩⟩⟩⟩⟩⟩⟩⟩⟩⟩⟩⟩⟩⟩⟩⟩⟩⟩⟩⟩⟩⟩⟩⟩⟩⟩⟩⟩⟩⟩⟩⟩⟩⟩⟩⟩⟩⟩⟩⟩⟩⟩⟩⟩⟩⟩⟩⟩⟩⟩⟩⟩⟩⟩⟩⟩⟩⟩⟩⟩⟩⟩⟩⟩⟩⟩⟩⟩⟩⟩⟩⟩⟩⟩⟩⟩⟩⟩⟩⟩⟩⟩⟩⟩⟩⟩⟩⟩⟩⟩⟩⟩⟩⟩⟩⟩⟩⟩⟩⟩⟩⟩⟩⟩⟩⟩⟩⟩⟩⟩⟩⟩⟩⟩⟩⟩⟩⟩⟩⟩⟩⟩⟩⟩⟩⟩⟩⟩⟩⟩⟩⟩⟩⟩⟩⟩⟩⟩⟩⟩⟩⟩⟩⟩⟩⟩⟩⟩⟩⟩⟩⟩⟩⟩⟩⟩⟩⟩⟩⟩⟩⟩⟩⟩⟩⟩⟩⟩⟩⟩⟩⟩⟩⟩⟩⟩⟩⟩⟩⟩⟩⟩⟩⟩⟩⟩⟩⟩⟩⟩⟩⟩⟩⟩⟩⟩⟩⟩⟩⟩⟩⟩⟩⟩⟩⟩⟩⟩⟩⟩⟩⟩⟩⟩⟩⟩⟩⟩⟩⟩⟩⟩⟩⟩⟩⟩⟩⟩⟩⟩⟩⟩⟩⟩⟩⟩⟩⟩⟩⟩⟩⟩⟩⟩⟩⟩⟩⟩⟩⟩⟩⟩⟩⟩⟩⟩⟩⟩⟩⟩⟩⟩⟩⟩⟩⟩⟩⟩⟩⟩⟩⟩⟩⟩⟩⟩⟩⟩⟩⟩⟩⟩⟩⟩⟩⟩⟩⟩⟩⟩⟩⟩⟩⟩⟩⟩⟩⟩⟩⟩⟩⟩⟩⟩⟩⟩⟩⟩⟩⟩⟩⟩⟩
theorem xG : xGl xTc xMs vwCl xTys := ⟨xG1, xG2⟩
theorem mi_0 : xMs[0]? = some xm_0 := rfl
theorem xin_0 : xm_0 ∈ xMs := List.mem_of_getElem? mi_0
theorem mi_1 : xMs[1]? = some xm_1 := rfl
theorem xin_1 : xm_1 ∈ xMs := List.mem_of_getElem? mi_1
theorem mi_2 : xMs[2]? = some xm_2 := rfl
theorem xin_2 : xm_2 ∈ xMs := List.mem_of_getElem? mi_2
theorem mi_3 : xMs[3]? = some xm_3 := rfl
theorem xin_3 : xm_3 ∈ xMs := List.mem_of_getElem? mi_3
theorem mi_4 : xMs[4]? = some xm_4 := rfl
theorem xin_4 : xm_4 ∈ xMs := List.mem_of_getElem? mi_4
theorem mi_5 : xMs[5]? = some xm_5 := rfl
theorem xin_5 : xm_5 ∈ xMs := List.mem_of_getElem? mi_5
theorem mi_6 : xMs[6]? = some xm_6 := rfl
theorem xin_6 : xm_6 ∈ xMs := List.mem_of_getElem? mi_6
theorem mi_7 : xMs[7]? = some xm_7 := rfl
theorem xin_7 : xm_7 ∈ xMs := List.mem_of_getElem? mi_7
theorem mi_8 : xMs[8]? = some xm_8 := rfl
theorem xin_8 : xm_8 ∈ xMs := List.mem_of_getElem? mi_8
theorem mi_9 : xMs[9]? = some xm_9 := rfl
theorem xin_9 : xm_9 ∈ xMs := List.mem_of_getElem? mi_9
theorem mi_10 : xMs[10]? = some xm_10 := rfl
theorem xin_10 : xm_10 ∈ xMs := List.mem_of_getElem? mi_10
theorem mi_11 : xMs[11]? = some xm_11 := rfl
theorem xin_11 : xm_11 ∈ xMs := List.mem_of_getElem? mi_11
theorem mi_12 : xMs[12]? = some xm_12 := rfl
theorem xin_12 : xm_12 ∈ xMs := List.mem_of_getElem? mi_12
theorem mi_13 : xMs[13]? = some xm_13 := rfl
theorem xin_13 : xm_13 ∈ xMs := List.mem_of_getElem? mi_13
theorem mi_14 : xMs[14]? = some xm_14 := rfl
theorem xin_14 : xm_14 ∈ xMs := List.mem_of_getElem? mi_14
theorem mi_15 : xMs[15]? = some xm_15 := rfl
theorem xin_15 : xm_15 ∈ xMs := List.mem_of_getElem? mi_15
theorem mi_16 : xMs[16]? = some xm_16 := rfl
theorem xin_16 : xm_16 ∈ xMs := List.mem_of_getElem? mi_16
theorem mi_17 : xMs[17]? = some xm_17 := rfl
theorem xin_17 : xm_17 ∈ xMs := List.mem_of_getElem? mi_17
theorem mi_18 : xMs[18]? = some xm_18 := rfl
theorem xin_18 : xm_18 ∈ xMs := List.mem_of_getElem? mi_18
theorem mi_19 : xMs[19]? = some xm_19 := rfl
theorem xin_19 : xm_19 ∈ xMs := List.mem_of_getElem? mi_19
theorem mi_20 : xMs[20]? = some xm_20 := rfl
theorem xin_20 : xm_20 ∈ xMs := List.mem_of_getElem? mi_20
theorem mi_21 : xMs[21]? = some xm_21 := rfl
theorem xin_21 : xm_21 ∈ xMs := List.mem_of_getElem? mi_21
theorem mi_22 : xMs[22]? = some xm_22 := rfl
theorem xin_22 : xm_22 ∈ xMs := List.mem_of_getElem? mi_22
theorem mi_23 : xMs[23]? = some xm_23 := rfl
theorem xin_23 : xm_23 ∈ xMs := List.mem_of_getElem? mi_23
theorem mi_24 : xMs[24]? = some xm_24 := rfl
theorem xin_24 : xm_24 ∈ xMs := List.mem_of_getElem? mi_24
theorem mi_25 : xMs[25]? = some xm_25 := rfl
theorem xin_25 : xm_25 ∈ xMs := List.mem_of_getElem? mi_25
theorem mi_26 : xMs[26]? = some xm_26 := rfl
theorem xin_26 : xm_26 ∈ xMs := List.mem_of_getElem? mi_26
theorem mi_27 : xMs[27]? = some xm_27 := rfl
theorem xin_27 : xm_27 ∈ xMs := List.mem_of_getElem? mi_27
theorem mi_28 : xMs[28]? = some xm_28 := rfl
theorem xin_28 : xm_28 ∈ xMs := List.mem_of_getElem? mi_28
theorem mi_29 : xMs[29]? = some xm_29 := rfl
theorem xin_29 : xm_29 ∈ xMs := List.mem_of_getElem? mi_29
theorem mi_30 : xMs[30]? = some xm_30 := rfl
theorem xin_30 : xm_30 ∈ xMs := List.mem_of_getElem? mi_30
theorem mi_31 : xMs[31]? = some xm_31 := rfl
theorem xin_31 : xm_31 ∈ xMs := List.mem_of_getElem? mi_31
theorem mi_32 : xMs[32]? = some xm_32 := rfl
theorem xin_32 : xm_32 ∈ xMs := List.mem_of_getElem? mi_32
theorem mi_33 : xMs[33]? = some xm_33 := rfl
theorem xin_33 : xm_33 ∈ xMs := List.mem_of_getElem? mi_33
theorem mi_34 : xMs[34]? = some xm_34 := rfl
theorem xin_34 : xm_34 ∈ xMs := List.mem_of_getElem? mi_34
theorem mi_35 : xMs[35]? = some xm_35 := rfl
theorem xin_35 : xm_35 ∈ xMs := List.mem_of_getElem? mi_35
theorem mi_36 : xMs[36]? = some xm_36 := rfl
theorem xin_36 : xm_36 ∈ xMs := List.mem_of_getElem? mi_36
theorem mi_37 : xMs[37]? = some xm_37 := rfl
theorem xin_37 : xm_37 ∈ xMs := List.mem_of_getElem? mi_37
theorem mi_38 : xMs[38]? = some xm_38 := rfl
theorem xin_38 : xm_38 ∈ xMs := List.mem_of_getElem? mi_38
theorem mi_39 : xMs[39]? = some xm_39 := rfl
theorem xin_39 : xm_39 ∈ xMs := List.mem_of_getElem? mi_39
theorem mi_40 : xMs[40]? = some xm_40 := rfl
theorem xin_40 : xm_40 ∈ xMs := List.mem_of_getElem? mi_40
theorem mi_41 : xMs[41]? = some xm_41 := rfl
theorem xin_41 : xm_41 ∈ xMs := List.mem_of_getElem? mi_41
theorem mi_42 : xMs[42]? = some xm_42 := rfl
theorem xin_42 : xm_42 ∈ xMs := List.mem_of_getElem? mi_42
theorem mi_43 : xMs[43]? = some xm_43 := rfl
theorem xin_43 : xm_43 ∈ xMs := List.mem_of_getElem? mi_43
theorem mi_44 : xMs[44]? = some xm_44 := rfl
theorem xin_44 : xm_44 ∈ xMs := List.mem_of_getElem? mi_44
theorem mi_45 : xMs[45]? = some xm_45 := rfl
theorem xin_45 : xm_45 ∈ xMs := List.mem_of_getElem? mi_45
theorem mi_46 : xMs[46]? = some xm_46 := rfl
theorem xin_46 : xm_46 ∈ xMs := List.mem_of_getElem? mi_46
theorem mi_47 : xMs[47]? = some xm_47 := rfl
theorem xin_47 : xm_47 ∈ xMs := List.mem_of_getElem? mi_47
theorem mi_48 : xMs[48]? = some xm_48 := rfl
theorem xin_48 : xm_48 ∈ xMs := List.mem_of_getElem? mi_48
theorem mi_49 : xMs[49]? = some xm_49 := rfl
theorem xin_49 : xm_49 ∈ xMs := List.mem_of_getElem? mi_49
theorem mi_50 : xMs[50]? = some xm_50 := rfl
theorem xin_50 : xm_50 ∈ xMs := List.mem_of_getElem? mi_50
theorem mi_51 : xMs[51]? = some xm_51 := rfl
theorem xin_51 : xm_51 ∈ xMs := List.mem_of_getElem? mi_51
theorem mi_52 : xMs[52]? = some xm_52 := rfl
theorem xin_52 : xm_52 ∈ xMs := List.mem_of_getElem? mi_52
theorem mi_53 : xMs[53]? = some xm_53 := rfl
theorem xin_53 : xm_53 ∈ xMs := List.mem_of_getElem? mi_53
theorem mi_54 : xMs[54]? = some xm_54 := rfl
theorem xin_54 : xm_54 ∈ xMs := List.mem_of_getElem? mi_54
theorem mi_55 : xMs[55]? = some xm_55 := rfl
theorem xin_55 : xm_55 ∈ xMs := List.mem_of_getElem? mi_55
theorem mi_56 : xMs[56]? = some xm_56 := rfl
theorem xin_56 : xm_56 ∈ xMs := List.mem_of_getElem? mi_56
theorem mi_57 : xMs[57]? = some xm_57 := rfl
theorem xin_57 : xm_57 ∈ xMs := List.mem_of_getElem? mi_57
theorem mi_58 : xMs[58]? = some xm_58 := rfl
theorem xin_58 : xm_58 ∈ xMs := List.mem_of_getElem? mi_58
theorem mi_59 : xMs[59]? = some xm_59 := rfl
theorem xin_59 : xm_59 ∈ xMs := List.mem_of_getElem? mi_59
theorem mi_60 : xMs[60]? = some xm_60 := rfl
theorem xin_60 : xm_60 ∈ xMs := List.mem_of_getElem? mi_60
theorem mi_61 : xMs[61]? = some xm_61 := rfl
theorem xin_61 : xm_61 ∈ xMs := List.mem_of_getElem? mi_61
theorem mi_62 : xMs[62]? = some xm_62 := rfl
theorem xin_62 : xm_62 ∈ xMs := List.mem_of_getElem? mi_62
theorem mi_63 : xMs[63]? = some xm_63 := rfl
theorem xin_63 : xm_63 ∈ xMs := List.mem_of_getElem? mi_63
theorem mi_64 : xMs[64]? = some xm_64 := rfl
theorem xin_64 : xm_64 ∈ xMs := List.mem_of_getElem? mi_64
theorem mi_65 : xMs[65]? = some xm_65 := rfl
theorem xin_65 : xm_65 ∈ xMs := List.mem_of_getElem? mi_65
theorem mi_66 : xMs[66]? = some xm_66 := rfl
theorem xin_66 : xm_66 ∈ xMs := List.mem_of_getElem? mi_66
theorem mi_67 : xMs[67]? = some xm_67 := rfl
theorem xin_67 : xm_67 ∈ xMs := List.mem_of_getElem? mi_67
theorem mi_68 : xMs[68]? = some xm_68 := rfl
theorem xin_68 : xm_68 ∈ xMs := List.mem_of_getElem? mi_68
theorem mi_69 : xMs[69]? = some xm_69 := rfl
theorem xin_69 : xm_69 ∈ xMs := List.mem_of_getElem? mi_69
theorem mi_70 : xMs[70]? = some xm_70 := rfl
theorem xin_70 : xm_70 ∈ xMs := List.mem_of_getElem? mi_70
theorem mi_71 : xMs[71]? = some xm_71 := rfl
theorem xin_71 : xm_71 ∈ xMs := List.mem_of_getElem? mi_71
theorem mi_72 : xMs[72]? = some xm_72 := rfl
theorem xin_72 : xm_72 ∈ xMs := List.mem_of_getElem? mi_72
theorem mi_73 : xMs[73]? = some xm_73 := rfl
theorem xin_73 : xm_73 ∈ xMs := List.mem_of_getElem? mi_73
theorem mi_74 : xMs[74]? = some xm_74 := rfl
theorem xin_74 : xm_74 ∈ xMs := List.mem_of_getElem? mi_74
theorem mi_75 : xMs[75]? = some xm_75 := rfl
theorem xin_75 : xm_75 ∈ xMs := List.mem_of_getElem? mi_75
theorem mi_76 : xMs[76]? = some xm_76 := rfl
theorem xin_76 : xm_76 ∈ xMs := List.mem_of_getElem? mi_76
theorem mi_77 : xMs[77]? = some xm_77 := rfl
theorem xin_77 : xm_77 ∈ xMs := List.mem_of_getElem? mi_77
theorem mi_78 : xMs[78]? = some xm_78 := rfl
theorem xin_78 : xm_78 ∈ xMs := List.mem_of_getElem? mi_78
theorem mi_79 : xMs[79]? = some xm_79 := rfl
theorem xin_79 : xm_79 ∈ xMs := List.mem_of_getElem? mi_79
theorem mi_80 : xMs[80]? = some xm_80 := rfl
theorem xin_80 : xm_80 ∈ xMs := List.mem_of_getElem? mi_80
theorem mi_81 : xMs[81]? = some xm_81 := rfl
theorem xin_81 : xm_81 ∈ xMs := List.mem_of_getElem? mi_81
theorem mi_82 : xMs[82]? = some xm_82 := rfl
theorem xin_82 : xm_82 ∈ xMs := List.mem_of_getElem? mi_82
theorem mi_83 : xMs[83]? = some xm_83 := rfl
theorem xin_83 : xm_83 ∈ xMs := List.mem_of_getElem? mi_83
theorem mi_84 : xMs[84]? = some xm_84 := rfl
theorem xin_84 : xm_84 ∈ xMs := List.mem_of_getElem? mi_84
theorem mi_85 : xMs[85]? = some xm_85 := rfl
theorem xin_85 : xm_85 ∈ xMs := List.mem_of_getElem? mi_85
theorem mi_86 : xMs[86]? = some xm_86 := rfl
theorem xin_86 : xm_86 ∈ xMs := List.mem_of_getElem? mi_86
theorem mi_87 : xMs[87]? = some xm_87 := rfl
theorem xin_87 : xm_87 ∈ xMs := List.mem_of_getElem? mi_87
theorem mi_88 : xMs[88]? = some xm_88 := rfl
theorem xin_88 : xm_88 ∈ xMs := List.mem_of_getElem? mi_88
theorem mi_89 : xMs[89]? = some xm_89 := rfl
theorem xin_89 : xm_89 ∈ xMs := List.mem_of_getElem? mi_89
theorem mi_90 : xMs[90]? = some xm_90 := rfl
theorem xin_90 : xm_90 ∈ xMs := List.mem_of_getElem? mi_90
theorem mi_91 : xMs[91]? = some xm_91 := rfl
theorem xin_91 : xm_91 ∈ xMs := List.mem_of_getElem? mi_91
theorem mi_92 : xMs[92]? = some xm_92 := rfl
theorem xin_92 : xm_92 ∈ xMs := List.mem_of_getElem? mi_92
theorem mi_93 : xMs[93]? = some xm_93 := rfl
theorem xin_93 : xm_93 ∈ xMs := List.mem_of_getElem? mi_93
theorem mi_94 : xMs[94]? = some xm_94 := rfl
theorem xin_94 : xm_94 ∈ xMs := List.mem_of_getElem? mi_94
theorem mi_95 : xMs[95]? = some xm_95 := rfl
theorem xin_95 : xm_95 ∈ xMs := List.mem_of_getElem? mi_95
theorem mi_96 : xMs[96]? = some xm_96 := rfl
theorem xin_96 : xm_96 ∈ xMs := List.mem_of_getElem? mi_96
theorem mi_97 : xMs[97]? = some xm_97 := rfl
theorem xin_97 : xm_97 ∈ xMs := List.mem_of_getElem? mi_97
theorem mi_98 : xMs[98]? = some xm_98 := rfl
theorem xin_98 : xm_98 ∈ xMs := List.mem_of_getElem? mi_98
theorem mi_99 : xMs[99]? = some xm_99 := rfl
theorem xin_99 : xm_99 ∈ xMs := List.mem_of_getElem? mi_99
theorem mi_100 : xMs[100]? = some xm_100 := rfl
theorem xin_100 : xm_100 ∈ xMs := List.mem_of_getElem? mi_100
theorem mi_101 : xMs[101]? = some xm_101 := rfl
theorem xin_101 : xm_101 ∈ xMs := List.mem_of_getElem? mi_101
theorem mi_102 : xMs[102]? = some xm_102 := rfl
theorem xin_102 : xm_102 ∈ xMs := List.mem_of_getElem? mi_102
theorem mi_103 : xMs[103]? = some xm_103 := rfl
theorem xin_103 : xm_103 ∈ xMs := List.mem_of_getElem? mi_103
theorem mi_104 : xMs[104]? = some xm_104 := rfl
theorem xin_104 : xm_104 ∈ xMs := List.mem_of_getElem? mi_104
theorem mi_105 : xMs[105]? = some xm_105 := rfl
theorem xin_105 : xm_105 ∈ xMs := List.mem_of_getElem? mi_105
theorem mi_106 : xMs[106]? = some xm_106 := rfl
theorem xin_106 : xm_106 ∈ xMs := List.mem_of_getElem? mi_106
theorem mi_107 : xMs[107]? = some xm_107 := rfl
theorem xin_107 : xm_107 ∈ xMs := List.mem_of_getElem? mi_107
theorem mi_108 : xMs[108]? = some xm_108 := rfl
theorem xin_108 : xm_108 ∈ xMs := List.mem_of_getElem? mi_108
theorem mi_109 : xMs[109]? = some xm_109 := rfl
theorem xin_109 : xm_109 ∈ xMs := List.mem_of_getElem? mi_109
theorem mi_110 : xMs[110]? = some xm_110 := rfl
theorem xin_110 : xm_110 ∈ xMs := List.mem_of_getElem? mi_110
theorem mi_111 : xMs[111]? = some xm_111 := rfl
theorem xin_111 : xm_111 ∈ xMs := List.mem_of_getElem? mi_111
theorem mi_112 : xMs[112]? = some xm_112 := rfl
theorem xin_112 : xm_112 ∈ xMs := List.mem_of_getElem? mi_112
theorem mi_113 : xMs[113]? = some xm_113 := rfl
theorem xin_113 : xm_113 ∈ xMs := List.mem_of_getElem? mi_113
theorem mi_114 : xMs[114]? = some xm_114 := rfl
theorem xin_114 : xm_114 ∈ xMs := List.mem_of_getElem? mi_114
theorem mi_115 : xMs[115]? = some xm_115 := rfl
theorem xin_115 : xm_115 ∈ xMs := List.mem_of_getElem? mi_115
theorem mi_116 : xMs[116]? = some xm_116 := rfl
theorem xin_116 : xm_116 ∈ xMs := List.mem_of_getElem? mi_116
theorem mi_117 : xMs[117]? = some xm_117 := rfl
theorem xin_117 : xm_117 ∈ xMs := List.mem_of_getElem? mi_117
theorem mi_118 : xMs[118]? = some xm_118 := rfl
theorem xin_118 : xm_118 ∈ xMs := List.mem_of_getElem? mi_118
theorem mi_119 : xMs[119]? = some xm_119 := rfl
theorem xin_119 : xm_119 ∈ xMs := List.mem_of_getElem? mi_119
theorem mi_120 : xMs[120]? = some xm_120 := rfl
theorem xin_120 : xm_120 ∈ xMs := List.mem_of_getElem? mi_120
theorem mi_121 : xMs[121]? = some xm_121 := rfl
theorem xin_121 : xm_121 ∈ xMs := List.mem_of_getElem? mi_121
theorem mi_122 : xMs[122]? = some xm_122 := rfl
theorem xin_122 : xm_122 ∈ xMs := List.mem_of_getElem? mi_122
theorem mi_123 : xMs[123]? = some xm_123 := rfl
theorem xin_123 : xm_123 ∈ xMs := List.mem_of_getElem? mi_123
theorem mi_124 : xMs[124]? = some xm_124 := rfl
theorem xin_124 : xm_124 ∈ xMs := List.mem_of_getElem? mi_124
theorem mi_125 : xMs[125]? = some xm_125 := rfl
theorem xin_125 : xm_125 ∈ xMs := List.mem_of_getElem? mi_125
theorem mi_126 : xMs[126]? = some xm_126 := rfl
theorem xin_126 : xm_126 ∈ xMs := List.mem_of_getElem? mi_126
theorem mi_127 : xMs[127]? = some xm_127 := rfl
theorem xin_127 : xm_127 ∈ xMs := List.mem_of_getElem? mi_127
theorem mi_128 : xMs[128]? = some xm_128 := rfl
theorem xin_128 : xm_128 ∈ xMs := List.mem_of_getElem? mi_128
theorem mi_129 : xMs[129]? = some xm_129 := rfl
theorem xin_129 : xm_129 ∈ xMs := List.mem_of_getElem? mi_129
theorem mi_130 : xMs[130]? = some xm_130 := rfl
theorem xin_130 : xm_130 ∈ xMs := List.mem_of_getElem? mi_130
theorem mi_131 : xMs[131]? = some xm_131 := rfl
theorem xin_131 : xm_131 ∈ xMs := List.mem_of_getElem? mi_131
theorem mi_132 : xMs[132]? = some xm_132 := rfl
theorem xin_132 : xm_132 ∈ xMs := List.mem_of_getElem? mi_132
theorem mi_133 : xMs[133]? = some xm_133 := rfl
theorem xin_133 : xm_133 ∈ xMs := List.mem_of_getElem? mi_133
theorem mi_134 : xMs[134]? = some xm_134 := rfl
theorem xin_134 : xm_134 ∈ xMs := List.mem_of_getElem? mi_134
theorem mi_135 : xMs[135]? = some xm_135 := rfl
theorem xin_135 : xm_135 ∈ xMs := List.mem_of_getElem? mi_135
theorem mi_136 : xMs[136]? = some xm_136 := rfl
theorem xin_136 : xm_136 ∈ xMs := List.mem_of_getElem? mi_136
theorem mi_137 : xMs[137]? = some xm_137 := rfl
theorem xin_137 : xm_137 ∈ xMs := List.mem_of_getElem? mi_137
theorem mi_138 : xMs[138]? = some xm_138 := rfl
theorem xin_138 : xm_138 ∈ xMs := List.mem_of_getElem? mi_138
theorem mi_139 : xMs[139]? = some xm_139 := rfl
theorem xin_139 : xm_139 ∈ xMs := List.mem_of_getElem? mi_139
theorem mi_140 : xMs[140]? = some xm_140 := rfl
theorem xin_140 : xm_140 ∈ xMs := List.mem_of_getElem? mi_140
theorem mi_141 : xMs[141]? = some xm_141 := rfl
theorem xin_141 : xm_141 ∈ xMs := List.mem_of_getElem? mi_141
theorem mi_142 : xMs[142]? = some xm_142 := rfl
theorem xin_142 : xm_142 ∈ xMs := List.mem_of_getElem? mi_142
theorem mi_143 : xMs[143]? = some xm_143 := rfl
theorem xin_143 : xm_143 ∈ xMs := List.mem_of_getElem? mi_143
theorem mi_144 : xMs[144]? = some xm_144 := rfl
theorem xin_144 : xm_144 ∈ xMs := List.mem_of_getElem? mi_144
theorem mi_145 : xMs[145]? = some xm_145 := rfl
theorem xin_145 : xm_145 ∈ xMs := List.mem_of_getElem? mi_145
theorem mi_146 : xMs[146]? = some xm_146 := rfl
theorem xin_146 : xm_146 ∈ xMs := List.mem_of_getElem? mi_146
theorem mi_147 : xMs[147]? = some xm_147 := rfl
theorem xin_147 : xm_147 ∈ xMs := List.mem_of_getElem? mi_147
theorem mi_148 : xMs[148]? = some xm_148 := rfl
theorem xin_148 : xm_148 ∈ xMs := List.mem_of_getElem? mi_148
theorem mi_149 : xMs[149]? = some xm_149 := rfl
theorem xin_149 : xm_149 ∈ xMs := List.mem_of_getElem? mi_149
theorem mi_150 : xMs[150]? = some xm_150 := rfl
theorem xin_150 : xm_150 ∈ xMs := List.mem_of_getElem? mi_150
theorem mi_151 : xMs[151]? = some xm_151 := rfl
theorem xin_151 : xm_151 ∈ xMs := List.mem_of_getElem? mi_151
theorem mi_152 : xMs[152]? = some xm_152 := rfl
theorem xin_152 : xm_152 ∈ xMs := List.mem_of_getElem? mi_152
theorem mi_153 : xMs[153]? = some xm_153 := rfl
theorem xin_153 : xm_153 ∈ xMs := List.mem_of_getElem? mi_153
theorem mi_154 : xMs[154]? = some xm_154 := rfl
theorem xin_154 : xm_154 ∈ xMs := List.mem_of_getElem? mi_154
theorem mi_155 : xMs[155]? = some xm_155 := rfl
theorem xin_155 : xm_155 ∈ xMs := List.mem_of_getElem? mi_155
theorem mi_156 : xMs[156]? = some xm_156 := rfl
theorem xin_156 : xm_156 ∈ xMs := List.mem_of_getElem? mi_156
theorem mi_157 : xMs[157]? = some xm_157 := rfl
theorem xin_157 : xm_157 ∈ xMs := List.mem_of_getElem? mi_157
theorem mi_158 : xMs[158]? = some xm_158 := rfl
theorem xin_158 : xm_158 ∈ xMs := List.mem_of_getElem? mi_158
theorem mi_159 : xMs[159]? = some xm_159 := rfl
theorem xin_159 : xm_159 ∈ xMs := List.mem_of_getElem? mi_159
theorem mi_160 : xMs[160]? = some xm_160 := rfl
theorem xin_160 : xm_160 ∈ xMs := List.mem_of_getElem? mi_160
theorem mi_161 : xMs[161]? = some xm_161 := rfl
theorem xin_161 : xm_161 ∈ xMs := List.mem_of_getElem? mi_161
theorem mi_162 : xMs[162]? = some xm_162 := rfl
theorem xin_162 : xm_162 ∈ xMs := List.mem_of_getElem? mi_162
theorem mi_163 : xMs[163]? = some xm_163 := rfl
theorem xin_163 : xm_163 ∈ xMs := List.mem_of_getElem? mi_163
theorem mi_164 : xMs[164]? = some xm_164 := rfl
theorem xin_164 : xm_164 ∈ xMs := List.mem_of_getElem? mi_164
theorem mi_165 : xMs[165]? = some xm_165 := rfl
theorem xin_165 : xm_165 ∈ xMs := List.mem_of_getElem? mi_165
theorem mi_166 : xMs[166]? = some xm_166 := rfl
theorem xin_166 : xm_166 ∈ xMs := List.mem_of_getElem? mi_166
theorem mi_167 : xMs[167]? = some xm_167 := rfl
theorem xin_167 : xm_167 ∈ xMs := List.mem_of_getElem? mi_167
theorem mi_168 : xMs[168]? = some xm_168 := rfl
theorem xin_168 : xm_168 ∈ xMs := List.mem_of_getElem? mi_168
theorem mi_169 : xMs[169]? = some xm_169 := rfl
theorem xin_169 : xm_169 ∈ xMs := List.mem_of_getElem? mi_169
theorem mi_170 : xMs[170]? = some xm_170 := rfl
theorem xin_170 : xm_170 ∈ xMs := List.mem_of_getElem? mi_170
theorem mi_171 : xMs[171]? = some xm_171 := rfl
theorem xin_171 : xm_171 ∈ xMs := List.mem_of_getElem? mi_171
theorem mi_172 : xMs[172]? = some xm_172 := rfl
theorem xin_172 : xm_172 ∈ xMs := List.mem_of_getElem? mi_172
theorem mi_173 : xMs[173]? = some xm_173 := rfl
theorem xin_173 : xm_173 ∈ xMs := List.mem_of_getElem? mi_173
theorem mi_174 : xMs[174]? = some xm_174 := rfl
theorem xin_174 : xm_174 ∈ xMs := List.mem_of_getElem? mi_174
theorem mi_175 : xMs[175]? = some xm_175 := rfl
theorem xin_175 : xm_175 ∈ xMs := List.mem_of_getElem? mi_175
theorem mi_176 : xMs[176]? = some xm_176 := rfl
theorem xin_176 : xm_176 ∈ xMs := List.mem_of_getElem? mi_176
theorem mi_177 : xMs[177]? = some xm_177 := rfl
theorem xin_177 : xm_177 ∈ xMs := List.mem_of_getElem? mi_177
theorem mi_178 : xMs[178]? = some xm_178 := rfl
theorem xin_178 : xm_178 ∈ xMs := List.mem_of_getElem? mi_178
theorem mi_179 : xMs[179]? = some xm_179 := rfl
theorem xin_179 : xm_179 ∈ xMs := List.mem_of_getElem? mi_179
theorem mi_180 : xMs[180]? = some xm_180 := rfl
theorem xin_180 : xm_180 ∈ xMs := List.mem_of_getElem? mi_180
theorem mi_181 : xMs[181]? = some xm_181 := rfl
theorem xin_181 : xm_181 ∈ xMs := List.mem_of_getElem? mi_181
theorem mi_182 : xMs[182]? = some xm_182 := rfl
theorem xin_182 : xm_182 ∈ xMs := List.mem_of_getElem? mi_182
theorem mi_183 : xMs[183]? = some xm_183 := rfl
theorem xin_183 : xm_183 ∈ xMs := List.mem_of_getElem? mi_183
theorem mi_184 : xMs[184]? = some xm_184 := rfl
theorem xin_184 : xm_184 ∈ xMs := List.mem_of_getElem? mi_184
theorem mi_185 : xMs[185]? = some xm_185 := rfl
theorem xin_185 : xm_185 ∈ xMs := List.mem_of_getElem? mi_185
theorem mi_186 : xMs[186]? = some xm_186 := rfl
theorem xin_186 : xm_186 ∈ xMs := List.mem_of_getElem? mi_186
theorem mi_187 : xMs[187]? = some xm_187 := rfl
theorem xin_187 : xm_187 ∈ xMs := List.mem_of_getElem? mi_187
theorem mi_188 : xMs[188]? = some xm_188 := rfl
theorem xin_188 : xm_188 ∈ xMs := List.mem_of_getElem? mi_188
theorem mi_189 : xMs[189]? = some xm_189 := rfl
theorem xin_189 : xm_189 ∈ xMs := List.mem_of_getElem? mi_189
theorem mi_190 : xMs[190]? = some xm_190 := rfl
theorem xin_190 : xm_190 ∈ xMs := List.mem_of_getElem? mi_190
theorem mi_191 : xMs[191]? = some xm_191 := rfl
theorem xin_191 : xm_191 ∈ xMs := List.mem_of_getElem? mi_191
theorem mi_192 : xMs[192]? = some xm_192 := rfl
theorem xin_192 : xm_192 ∈ xMs := List.mem_of_getElem? mi_192
theorem mi_193 : xMs[193]? = some xm_193 := rfl
theorem xin_193 : xm_193 ∈ xMs := List.mem_of_getElem? mi_193
theorem mi_194 : xMs[194]? = some xm_194 := rfl
theorem xin_194 : xm_194 ∈ xMs := List.mem_of_getElem? mi_194
theorem mi_195 : xMs[195]? = some xm_195 := rfl
theorem xin_195 : xm_195 ∈ xMs := List.mem_of_getElem? mi_195
theorem mi_196 : xMs[196]? = some xm_196 := rfl
theorem xin_196 : xm_196 ∈ xMs := List.mem_of_getElem? mi_196
theorem mi_197 : xMs[197]? = some xm_197 := rfl
theorem xin_197 : xm_197 ∈ xMs := List.mem_of_getElem? mi_197
theorem mi_198 : xMs[198]? = some xm_198 := rfl
theorem xin_198 : xm_198 ∈ xMs := List.mem_of_getElem? mi_198
theorem mi_199 : xMs[199]? = some xm_199 := rfl
theorem xin_199 : xm_199 ∈ xMs := List.mem_of_getElem? mi_199
set_option maxRecDepth 20000 in
theorem mi_200 : xMs[200]? = some xm_200 := rfl
theorem xin_200 : xm_200 ∈ xMs := List.mem_of_getElem? mi_200
set_option maxRecDepth 20000 in
theorem mi_201 : xMs[201]? = some xm_201 := rfl
theorem xin_201 : xm_201 ∈ xMs := List.mem_of_getElem? mi_201
set_option maxRecDepth 20000 in
theorem mi_202 : xMs[202]? = some xm_202 := rfl
theorem xin_202 : xm_202 ∈ xMs := List.mem_of_getElem? mi_202
set_option maxRecDepth 20000 in
theorem mi_203 : xMs[203]? = some xm_203 := rfl
theorem xin_203 : xm_203 ∈ xMs := List.mem_of_getElem? mi_203
set_option maxRecDepth 20000 in
theorem mi_204 : xMs[204]? = some xm_204 := rfl
theorem xin_204 : xm_204 ∈ xMs := List.mem_of_getElem? mi_204
set_option maxRecDepth 20000 in
theorem mi_205 : xMs[205]? = some xm_205 := rfl
theorem xin_205 : xm_205 ∈ xMs := List.mem_of_getElem? mi_205
set_option maxRecDepth 20000 in
theorem mi_206 : xMs[206]? = some xm_206 := rfl
theorem xin_206 : xm_206 ∈ xMs := List.mem_of_getElem? mi_206
set_option maxRecDepth 20000 in
theorem mi_207 : xMs[207]? = some xm_207 := rfl
theorem xin_207 : xm_207 ∈ xMs := List.mem_of_getElem? mi_207
set_option maxRecDepth 20000 in
theorem mi_208 : xMs[208]? = some xm_208 := rfl
theorem xin_208 : xm_208 ∈ xMs := List.mem_of_getElem? mi_208
set_option maxRecDepth 20000 in
theorem mi_209 : xMs[209]? = some xm_209 := rfl
theorem xin_209 : xm_209 ∈ xMs := List.mem_of_getElem? mi_209
set_option maxRecDepth 20000 in
theorem mi_210 : xMs[210]? = some xm_210 := rfl
theorem xin_210 : xm_210 ∈ xMs := List.mem_of_getElem? mi_210
set_option maxRecDepth 20000 in
theorem mi_211 : xMs[211]? = some xm_211 := rfl
theorem xin_211 : xm_211 ∈ xMs := List.mem_of_getElem? mi_211
set_option maxRecDepth 20000 in
theorem mi_212 : xMs[212]? = some xm_212 := rfl
theorem xin_212 : xm_212 ∈ xMs := List.mem_of_getElem? mi_212
set_option maxRecDepth 20000 in
theorem mi_213 : xMs[213]? = some xm_213 := rfl
theorem xin_213 : xm_213 ∈ xMs := List.mem_of_getElem? mi_213
set_option maxRecDepth 20000 in
theorem mi_214 : xMs[214]? = some xm_214 := rfl
theorem xin_214 : xm_214 ∈ xMs := List.mem_of_getElem? mi_214
set_option maxRecDepth 20000 in
theorem mi_215 : xMs[215]? = some xm_215 := rfl
theorem xin_215 : xm_215 ∈ xMs := List.mem_of_getElem? mi_215
set_option maxRecDepth 20000 in
theorem mi_216 : xMs[216]? = some xm_216 := rfl
theorem xin_216 : xm_216 ∈ xMs := List.mem_of_getElem? mi_216
set_option maxRecDepth 20000 in
theorem mi_217 : xMs[217]? = some xm_217 := rfl
theorem xin_217 : xm_217 ∈ xMs := List.mem_of_getElem? mi_217
set_option maxRecDepth 20000 in
theorem mi_218 : xMs[218]? = some xm_218 := rfl
theorem xin_218 : xm_218 ∈ xMs := List.mem_of_getElem? mi_218
set_option maxRecDepth 20000 in
theorem mi_219 : xMs[219]? = some xm_219 := rfl
theorem xin_219 : xm_219 ∈ xMs := List.mem_of_getElem? mi_219
set_option maxRecDepth 20000 in
theorem mi_220 : xMs[220]? = some xm_220 := rfl
theorem xin_220 : xm_220 ∈ xMs := List.mem_of_getElem? mi_220
set_option maxRecDepth 20000 in
theorem mi_221 : xMs[221]? = some xm_221 := rfl
theorem xin_221 : xm_221 ∈ xMs := List.mem_of_getElem? mi_221
set_option maxRecDepth 20000 in
theorem mi_222 : xMs[222]? = some xm_222 := rfl
theorem xin_222 : xm_222 ∈ xMs := List.mem_of_getElem? mi_222
set_option maxRecDepth 20000 in
theorem mi_223 : xMs[223]? = some xm_223 := rfl
theorem xin_223 : xm_223 ∈ xMs := List.mem_of_getElem? mi_223
set_option maxRecDepth 20000 in
theorem mi_224 : xMs[224]? = some xm_224 := rfl
theorem xin_224 : xm_224 ∈ xMs := List.mem_of_getElem? mi_224
set_option maxRecDepth 20000 in
theorem mi_225 : xMs[225]? = some xm_225 := rfl
theorem xin_225 : xm_225 ∈ xMs := List.mem_of_getElem? mi_225
set_option maxRecDepth 20000 in
theorem mi_226 : xMs[226]? = some xm_226 := rfl
theorem xin_226 : xm_226 ∈ xMs := List.mem_of_getElem? mi_226
set_option maxRecDepth 20000 in
theorem mi_227 : xMs[227]? = some xm_227 := rfl
theorem xin_227 : xm_227 ∈ xMs := List.mem_of_getElem? mi_227
set_option maxRecDepth 20000 in
theorem mi_228 : xMs[228]? = some xm_228 := rfl
theorem xin_228 : xm_228 ∈ xMs := List.mem_of_getElem? mi_228
set_option maxRecDepth 20000 in
theorem mi_229 : xMs[229]? = some xm_229 := rfl
theorem xin_229 : xm_229 ∈ xMs := List.mem_of_getElem? mi_229
set_option maxRecDepth 20000 in
theorem mi_230 : xMs[230]? = some xm_230 := rfl
theorem xin_230 : xm_230 ∈ xMs := List.mem_of_getElem? mi_230
set_option maxRecDepth 20000 in
theorem mi_231 : xMs[231]? = some xm_231 := rfl
theorem xin_231 : xm_231 ∈ xMs := List.mem_of_getElem? mi_231
set_option maxRecDepth 20000 in
theorem mi_232 : xMs[232]? = some xm_232 := rfl
theorem xin_232 : xm_232 ∈ xMs := List.mem_of_getElem? mi_232
set_option maxRecDepth 20000 in
theorem mi_233 : xMs[233]? = some xm_233 := rfl
theorem xin_233 : xm_233 ∈ xMs := List.mem_of_getElem? mi_233
set_option maxRecDepth 20000 in
theorem mi_234 : xMs[234]? = some xm_234 := rfl
theorem xin_234 : xm_234 ∈ xMs := List.mem_of_getElem? mi_234
set_option maxRecDepth 20000 in
theorem mi_235 : xMs[235]? = some xm_235 := rfl
theorem xin_235 : xm_235 ∈ xMs := List.mem_of_getElem? mi_235
set_option maxRecDepth 20000 in
theorem mi_236 : xMs[236]? = some xm_236 := rfl
theorem xin_236 : xm_236 ∈ xMs := List.mem_of_getElem? mi_236
set_option maxRecDepth 20000 in
theorem mi_237 : xMs[237]? = some xm_237 := rfl
theorem xin_237 : xm_237 ∈ xMs := List.mem_of_getElem? mi_237
set_option maxRecDepth 20000 in
theorem mi_238 : xMs[238]? = some xm_238 := rfl
theorem xin_238 : xm_238 ∈ xMs := List.mem_of_getElem? mi_238
set_option maxRecDepth 20000 in
theorem mi_239 : xMs[239]? = some xm_239 := rfl
theorem xin_239 : xm_239 ∈ xMs := List.mem_of_getElem? mi_239
set_option maxRecDepth 20000 in
theorem mi_240 : xMs[240]? = some xm_240 := rfl
theorem xin_240 : xm_240 ∈ xMs := List.mem_of_getElem? mi_240
set_option maxRecDepth 20000 in
theorem mi_241 : xMs[241]? = some xm_241 := rfl
theorem xin_241 : xm_241 ∈ xMs := List.mem_of_getElem? mi_241
set_option maxRecDepth 20000 in
theorem mi_242 : xMs[242]? = some xm_242 := rfl
theorem xin_242 : xm_242 ∈ xMs := List.mem_of_getElem? mi_242
set_option maxRecDepth 20000 in
theorem mi_243 : xMs[243]? = some xm_243 := rfl
theorem xin_243 : xm_243 ∈ xMs := List.mem_of_getElem? mi_243
set_option maxRecDepth 20000 in
theorem mi_244 : xMs[244]? = some xm_244 := rfl
theorem xin_244 : xm_244 ∈ xMs := List.mem_of_getElem? mi_244
set_option maxRecDepth 20000 in
theorem mi_245 : xMs[245]? = some xm_245 := rfl
theorem xin_245 : xm_245 ∈ xMs := List.mem_of_getElem? mi_245
set_option maxRecDepth 20000 in
theorem mi_246 : xMs[246]? = some xm_246 := rfl
theorem xin_246 : xm_246 ∈ xMs := List.mem_of_getElem? mi_246
set_option maxRecDepth 20000 in
theorem mi_247 : xMs[247]? = some xm_247 := rfl
theorem xin_247 : xm_247 ∈ xMs := List.mem_of_getElem? mi_247
set_option maxRecDepth 20000 in
theorem mi_248 : xMs[248]? = some xm_248 := rfl
theorem xin_248 : xm_248 ∈ xMs := List.mem_of_getElem? mi_248
set_option maxRecDepth 20000 in
theorem mi_249 : xMs[249]? = some xm_249 := rfl
theorem xin_249 : xm_249 ∈ xMs := List.mem_of_getElem? mi_249
set_option maxRecDepth 20000 in
theorem mi_250 : xMs[250]? = some xm_250 := rfl
theorem xin_250 : xm_250 ∈ xMs := List.mem_of_getElem? mi_250
set_option maxRecDepth 20000 in
theorem mi_251 : xMs[251]? = some xm_251 := rfl
theorem xin_251 : xm_251 ∈ xMs := List.mem_of_getElem? mi_251
set_option maxRecDepth 20000 in
theorem mi_252 : xMs[252]? = some xm_252 := rfl
theorem xin_252 : xm_252 ∈ xMs := List.mem_of_getElem? mi_252
set_option maxRecDepth 20000 in
theorem mi_253 : xMs[253]? = some xm_253 := rfl
theorem xin_253 : xm_253 ∈ xMs := List.mem_of_getElem? mi_253
set_option maxRecDepth 20000 in
theorem mi_254 : xMs[254]? = some xm_254 := rfl
theorem xin_254 : xm_254 ∈ xMs := List.mem_of_getElem? mi_254
set_option maxRecDepth 20000 in
theorem mi_255 : xMs[255]? = some xm_255 := rfl
theorem xin_255 : xm_255 ∈ xMs := List.mem_of_getElem? mi_255
set_option maxRecDepth 20000 in
theorem mi_256 : xMs[256]? = some xm_256 := rfl
theorem xin_256 : xm_256 ∈ xMs := List.mem_of_getElem? mi_256
set_option maxRecDepth 20000 in
theorem mi_257 : xMs[257]? = some xm_257 := rfl
theorem xin_257 : xm_257 ∈ xMs := List.mem_of_getElem? mi_257
set_option maxRecDepth 20000 in
theorem mi_258 : xMs[258]? = some xm_258 := rfl
theorem xin_258 : xm_258 ∈ xMs := List.mem_of_getElem? mi_258
set_option maxRecDepth 20000 in
theorem mi_259 : xMs[259]? = some xm_259 := rfl
theorem xin_259 : xm_259 ∈ xMs := List.mem_of_getElem? mi_259
set_option maxRecDepth 20000 in
theorem mi_260 : xMs[260]? = some xm_260 := rfl
theorem xin_260 : xm_260 ∈ xMs := List.mem_of_getElem? mi_260
set_option maxRecDepth 20000 in
theorem mi_261 : xMs[261]? = some xm_261 := rfl
theorem xin_261 : xm_261 ∈ xMs := List.mem_of_getElem? mi_261
set_option maxRecDepth 20000 in
theorem mi_262 : xMs[262]? = some xm_262 := rfl
theorem xin_262 : xm_262 ∈ xMs := List.mem_of_getElem? mi_262
set_option maxRecDepth 20000 in
theorem mi_263 : xMs[263]? = some xm_263 := rfl
theorem xin_263 : xm_263 ∈ xMs := List.mem_of_getElem? mi_263
set_option maxRecDepth 20000 in
theorem mi_264 : xMs[264]? = some xm_264 := rfl
theorem xin_264 : xm_264 ∈ xMs := List.mem_of_getElem? mi_264
set_option maxRecDepth 20000 in
theorem mi_265 : xMs[265]? = some xm_265 := rfl
theorem xin_265 : xm_265 ∈ xMs := List.mem_of_getElem? mi_265
set_option maxRecDepth 20000 in
theorem mi_266 : xMs[266]? = some xm_266 := rfl
theorem xin_266 : xm_266 ∈ xMs := List.mem_of_getElem? mi_266
set_option maxRecDepth 20000 in
theorem mi_267 : xMs[267]? = some xm_267 := rfl
theorem xin_267 : xm_267 ∈ xMs := List.mem_of_getElem? mi_267
set_option maxRecDepth 20000 in
theorem mi_268 : xMs[268]? = some xm_268 := rfl
theorem xin_268 : xm_268 ∈ xMs := List.mem_of_getElem? mi_268
set_option maxRecDepth 20000 in
theorem mi_269 : xMs[269]? = some xm_269 := rfl
theorem xin_269 : xm_269 ∈ xMs := List.mem_of_getElem? mi_269
set_option maxRecDepth 20000 in
theorem mi_270 : xMs[270]? = some xm_270 := rfl
theorem xin_270 : xm_270 ∈ xMs := List.mem_of_getElem? mi_270
set_option maxRecDepth 20000 in
theorem mi_271 : xMs[271]? = some xm_271 := rfl
theorem xin_271 : xm_271 ∈ xMs := List.mem_of_getElem? mi_271
set_option maxRecDepth 20000 in
theorem mi_272 : xMs[272]? = some xm_272 := rfl
theorem xin_272 : xm_272 ∈ xMs := List.mem_of_getElem? mi_272
set_option maxRecDepth 20000 in
theorem mi_273 : xMs[273]? = some xm_273 := rfl
theorem xin_273 : xm_273 ∈ xMs := List.mem_of_getElem? mi_273
set_option maxRecDepth 20000 in
theorem mi_274 : xMs[274]? = some xm_274 := rfl
theorem xin_274 : xm_274 ∈ xMs := List.mem_of_getElem? mi_274
set_option maxRecDepth 20000 in
theorem mi_275 : xMs[275]? = some xm_275 := rfl
theorem xin_275 : xm_275 ∈ xMs := List.mem_of_getElem? mi_275
set_option maxRecDepth 20000 in
theorem mi_276 : xMs[276]? = some xm_276 := rfl
theorem xin_276 : xm_276 ∈ xMs := List.mem_of_getElem? mi_276
set_option maxRecDepth 20000 in
theorem mi_277 : xMs[277]? = some xm_277 := rfl
theorem xin_277 : xm_277 ∈ xMs := List.mem_of_getElem? mi_277
set_option maxRecDepth 20000 in
theorem mi_278 : xMs[278]? = some xm_278 := rfl
theorem xin_278 : xm_278 ∈ xMs := List.mem_of_getElem? mi_278
set_option maxRecDepth 20000 in
theorem mi_279 : xMs[279]? = some xm_279 := rfl
theorem xin_279 : xm_279 ∈ xMs := List.mem_of_getElem? mi_279
set_option maxRecDepth 20000 in
theorem mi_280 : xMs[280]? = some xm_280 := rfl
theorem xin_280 : xm_280 ∈ xMs := List.mem_of_getElem? mi_280
set_option maxRecDepth 20000 in
theorem mi_281 : xMs[281]? = some xm_281 := rfl
theorem xin_281 : xm_281 ∈ xMs := List.mem_of_getElem? mi_281
set_option maxRecDepth 20000 in
theorem mi_282 : xMs[282]? = some xm_282 := rfl
theorem xin_282 : xm_282 ∈ xMs := List.mem_of_getElem? mi_282
set_option maxRecDepth 20000 in
theorem mi_283 : xMs[283]? = some xm_283 := rfl
theorem xin_283 : xm_283 ∈ xMs := List.mem_of_getElem? mi_283
set_option maxRecDepth 20000 in
theorem mi_284 : xMs[284]? = some xm_284 := rfl
theorem xin_284 : xm_284 ∈ xMs := List.mem_of_getElem? mi_284
set_option maxRecDepth 20000 in
theorem mi_285 : xMs[285]? = some xm_285 := rfl
theorem xin_285 : xm_285 ∈ xMs := List.mem_of_getElem? mi_285
set_option maxRecDepth 20000 in
theorem mi_286 : xMs[286]? = some xm_286 := rfl
theorem xin_286 : xm_286 ∈ xMs := List.mem_of_getElem? mi_286
set_option maxRecDepth 20000 in
theorem mi_287 : xMs[287]? = some xm_287 := rfl
theorem xin_287 : xm_287 ∈ xMs := List.mem_of_getElem? mi_287
set_option maxRecDepth 20000 in
theorem mi_288 : xMs[288]? = some xm_288 := rfl
theorem xin_288 : xm_288 ∈ xMs := List.mem_of_getElem? mi_288
set_option maxRecDepth 20000 in
theorem mi_289 : xMs[289]? = some xm_289 := rfl
theorem xin_289 : xm_289 ∈ xMs := List.mem_of_getElem? mi_289
set_option maxRecDepth 20000 in
theorem mi_290 : xMs[290]? = some xm_290 := rfl
theorem xin_290 : xm_290 ∈ xMs := List.mem_of_getElem? mi_290
set_option maxRecDepth 20000 in
theorem mi_291 : xMs[291]? = some xm_291 := rfl
theorem xin_291 : xm_291 ∈ xMs := List.mem_of_getElem? mi_291
set_option maxRecDepth 20000 in
theorem mi_292 : xMs[292]? = some xm_292 := rfl
theorem xin_292 : xm_292 ∈ xMs := List.mem_of_getElem? mi_292
set_option maxRecDepth 20000 in
theorem mi_293 : xMs[293]? = some xm_293 := rfl
theorem xin_293 : xm_293 ∈ xMs := List.mem_of_getElem? mi_293
set_option maxRecDepth 20000 in
theorem mi_294 : xMs[294]? = some xm_294 := rfl
theorem xin_294 : xm_294 ∈ xMs := List.mem_of_getElem? mi_294
set_option maxRecDepth 20000 in
theorem mi_295 : xMs[295]? = some xm_295 := rfl
theorem xin_295 : xm_295 ∈ xMs := List.mem_of_getElem? mi_295
set_option maxRecDepth 20000 in
theorem mi_296 : xMs[296]? = some xm_296 := rfl
theorem xin_296 : xm_296 ∈ xMs := List.mem_of_getElem? mi_296
set_option maxRecDepth 20000 in
theorem mi_297 : xMs[297]? = some xm_297 := rfl
theorem xin_297 : xm_297 ∈ xMs := List.mem_of_getElem? mi_297
set_option maxRecDepth 20000 in
theorem mi_298 : xMs[298]? = some xm_298 := rfl
theorem xin_298 : xm_298 ∈ xMs := List.mem_of_getElem? mi_298
set_option maxRecDepth 20000 in
theorem mi_299 : xMs[299]? = some xm_299 := rfl
theorem xin_299 : xm_299 ∈ xMs := List.mem_of_getElem? mi_299
set_option maxRecDepth 20000 in
theorem mi_300 : xMs[300]? = some xm_300 := rfl
theorem xin_300 : xm_300 ∈ xMs := List.mem_of_getElem? mi_300
set_option maxRecDepth 20000 in
theorem mi_301 : xMs[301]? = some xm_301 := rfl
theorem xin_301 : xm_301 ∈ xMs := List.mem_of_getElem? mi_301
set_option maxRecDepth 20000 in
theorem mi_302 : xMs[302]? = some xm_302 := rfl
theorem xin_302 : xm_302 ∈ xMs := List.mem_of_getElem? mi_302
set_option maxRecDepth 20000 in
theorem mi_303 : xMs[303]? = some xm_303 := rfl
theorem xin_303 : xm_303 ∈ xMs := List.mem_of_getElem? mi_303
set_option maxRecDepth 20000 in
theorem mi_304 : xMs[304]? = some xm_304 := rfl
theorem xin_304 : xm_304 ∈ xMs := List.mem_of_getElem? mi_304
set_option maxRecDepth 20000 in
theorem mi_305 : xMs[305]? = some xm_305 := rfl
theorem xin_305 : xm_305 ∈ xMs := List.mem_of_getElem? mi_305
set_option maxRecDepth 20000 in
theorem mi_306 : xMs[306]? = some xm_306 := rfl
theorem xin_306 : xm_306 ∈ xMs := List.mem_of_getElem? mi_306
set_option maxRecDepth 20000 in
theorem mi_307 : xMs[307]? = some xm_307 := rfl
theorem xin_307 : xm_307 ∈ xMs := List.mem_of_getElem? mi_307
set_option maxRecDepth 20000 in
theorem mi_308 : xMs[308]? = some xm_308 := rfl
theorem xin_308 : xm_308 ∈ xMs := List.mem_of_getElem? mi_308
set_option maxRecDepth 20000 in
theorem mi_309 : xMs[309]? = some xm_309 := rfl
theorem xin_309 : xm_309 ∈ xMs := List.mem_of_getElem? mi_309
set_option maxRecDepth 20000 in
theorem mi_310 : xMs[310]? = some xm_310 := rfl
theorem xin_310 : xm_310 ∈ xMs := List.mem_of_getElem? mi_310
set_option maxRecDepth 20000 in
theorem mi_311 : xMs[311]? = some xm_311 := rfl
theorem xin_311 : xm_311 ∈ xMs := List.mem_of_getElem? mi_311
set_option maxRecDepth 20000 in
theorem mi_312 : xMs[312]? = some xm_312 := rfl
theorem xin_312 : xm_312 ∈ xMs := List.mem_of_getElem? mi_312
set_option maxRecDepth 20000 in
theorem mi_313 : xMs[313]? = some xm_313 := rfl
theorem xin_313 : xm_313 ∈ xMs := List.mem_of_getElem? mi_313
set_option maxRecDepth 20000 in
theorem mi_314 : xMs[314]? = some xm_314 := rfl
theorem xin_314 : xm_314 ∈ xMs := List.mem_of_getElem? mi_314
set_option maxRecDepth 20000 in
theorem mi_315 : xMs[315]? = some xm_315 := rfl
theorem xin_315 : xm_315 ∈ xMs := List.mem_of_getElem? mi_315
set_option maxRecDepth 20000 in
theorem mi_316 : xMs[316]? = some xm_316 := rfl
theorem xin_316 : xm_316 ∈ xMs := List.mem_of_getElem? mi_316
set_option maxRecDepth 20000 in
theorem mi_317 : xMs[317]? = some xm_317 := rfl
theorem xin_317 : xm_317 ∈ xMs := List.mem_of_getElem? mi_317
set_option maxRecDepth 20000 in
theorem mi_318 : xMs[318]? = some xm_318 := rfl
theorem xin_318 : xm_318 ∈ xMs := List.mem_of_getElem? mi_318
set_option maxRecDepth 20000 in
theorem mi_319 : xMs[319]? = some xm_319 := rfl
theorem xin_319 : xm_319 ∈ xMs := List.mem_of_getElem? mi_319
set_option maxRecDepth 20000 in
theorem mi_320 : xMs[320]? = some xm_320 := rfl
theorem xin_320 : xm_320 ∈ xMs := List.mem_of_getElem? mi_320
set_option maxRecDepth 20000 in
theorem mi_321 : xMs[321]? = some xm_321 := rfl
theorem xin_321 : xm_321 ∈ xMs := List.mem_of_getElem? mi_321
set_option maxRecDepth 20000 in
theorem mi_322 : xMs[322]? = some xm_322 := rfl
theorem xin_322 : xm_322 ∈ xMs := List.mem_of_getElem? mi_322
set_option maxRecDepth 20000 in
theorem mi_323 : xMs[323]? = some xm_323 := rfl
theorem xin_323 : xm_323 ∈ xMs := List.mem_of_getElem? mi_323
set_option maxRecDepth 20000 in
theorem mi_324 : xMs[324]? = some xm_324 := rfl
theorem xin_324 : xm_324 ∈ xMs := List.mem_of_getElem? mi_324
set_option maxRecDepth 20000 in
theorem mi_325 : xMs[325]? = some xm_325 := rfl
theorem xin_325 : xm_325 ∈ xMs := List.mem_of_getElem? mi_325
set_option maxRecDepth 20000 in
theorem mi_326 : xMs[326]? = some xm_326 := rfl
theorem xin_326 : xm_326 ∈ xMs := List.mem_of_getElem? mi_326
set_option maxRecDepth 20000 in
theorem mi_327 : xMs[327]? = some xm_327 := rfl
theorem xin_327 : xm_327 ∈ xMs := List.mem_of_getElem? mi_327
set_option maxRecDepth 20000 in
theorem mi_328 : xMs[328]? = some xm_328 := rfl
theorem xin_328 : xm_328 ∈ xMs := List.mem_of_getElem? mi_328
set_option maxRecDepth 20000 in
theorem mi_329 : xMs[329]? = some xm_329 := rfl
theorem xin_329 : xm_329 ∈ xMs := List.mem_of_getElem? mi_329
set_option maxRecDepth 20000 in
theorem mi_330 : xMs[330]? = some xm_330 := rfl
theorem xin_330 : xm_330 ∈ xMs := List.mem_of_getElem? mi_330
set_option maxRecDepth 20000 in
theorem mi_331 : xMs[331]? = some xm_331 := rfl
theorem xin_331 : xm_331 ∈ xMs := List.mem_of_getElem? mi_331
set_option maxRecDepth 20000 in
theorem mi_332 : xMs[332]? = some xm_332 := rfl
theorem xin_332 : xm_332 ∈ xMs := List.mem_of_getElem? mi_332
set_option maxRecDepth 20000 in
theorem mi_333 : xMs[333]? = some xm_333 := rfl
theorem xin_333 : xm_333 ∈ xMs := List.mem_of_getElem? mi_333
set_option maxRecDepth 20000 in
theorem mi_334 : xMs[334]? = some xm_334 := rfl
theorem xin_334 : xm_334 ∈ xMs := List.mem_of_getElem? mi_334
set_option maxRecDepth 20000 in
theorem mi_335 : xMs[335]? = some xm_335 := rfl
theorem xin_335 : xm_335 ∈ xMs := List.mem_of_getElem? mi_335
set_option maxRecDepth 20000 in
theorem mi_336 : xMs[336]? = some xm_336 := rfl
theorem xin_336 : xm_336 ∈ xMs := List.mem_of_getElem? mi_336
set_option maxRecDepth 20000 in
theorem mi_337 : xMs[337]? = some xm_337 := rfl
theorem xin_337 : xm_337 ∈ xMs := List.mem_of_getElem? mi_337
set_option maxRecDepth 20000 in
theorem mi_338 : xMs[338]? = some xm_338 := rfl
theorem xin_338 : xm_338 ∈ xMs := List.mem_of_getElem? mi_338
set_option maxRecDepth 20000 in
theorem mi_339 : xMs[339]? = some xm_339 := rfl
theorem xin_339 : xm_339 ∈ xMs := List.mem_of_getElem? mi_339
set_option maxRecDepth 20000 in
theorem mi_340 : xMs[340]? = some xm_340 := rfl
theorem xin_340 : xm_340 ∈ xMs := List.mem_of_getElem? mi_340
set_option maxRecDepth 20000 in
theorem mi_341 : xMs[341]? = some xm_341 := rfl
theorem xin_341 : xm_341 ∈ xMs := List.mem_of_getElem? mi_341
set_option maxRecDepth 20000 in
theorem mi_342 : xMs[342]? = some xm_342 := rfl
theorem xin_342 : xm_342 ∈ xMs := List.mem_of_getElem? mi_342
set_option maxRecDepth 20000 in
theorem mi_343 : xMs[343]? = some xm_343 := rfl
theorem xin_343 : xm_343 ∈ xMs := List.mem_of_getElem? mi_343
set_option maxRecDepth 20000 in
theorem mi_344 : xMs[344]? = some xm_344 := rfl
theorem xin_344 : xm_344 ∈ xMs := List.mem_of_getElem? mi_344
set_option maxRecDepth 20000 in
theorem mi_345 : xMs[345]? = some xm_345 := rfl
theorem xin_345 : xm_345 ∈ xMs := List.mem_of_getElem? mi_345
set_option maxRecDepth 20000 in
theorem mi_346 : xMs[346]? = some xm_346 := rfl
theorem xin_346 : xm_346 ∈ xMs := List.mem_of_getElem? mi_346
set_option maxRecDepth 20000 in
theorem mi_347 : xMs[347]? = some xm_347 := rfl
theorem xin_347 : xm_347 ∈ xMs := List.mem_of_getElem? mi_347
set_option maxRecDepth 20000 in
theorem mi_348 : xMs[348]? = some xm_348 := rfl
theorem xin_348 : xm_348 ∈ xMs := List.mem_of_getElem? mi_348
set_option maxRecDepth 20000 in
theorem mi_349 : xMs[349]? = some xm_349 := rfl
theorem xin_349 : xm_349 ∈ xMs := List.mem_of_getElem? mi_349
set_option maxRecDepth 20000 in
theorem mi_350 : xMs[350]? = some xm_350 := rfl
theorem xin_350 : xm_350 ∈ xMs := List.mem_of_getElem? mi_350
set_option maxRecDepth 20000 in
theorem mi_351 : xMs[351]? = some xm_351 := rfl
theorem xin_351 : xm_351 ∈ xMs := List.mem_of_getElem? mi_351
set_option maxRecDepth 20000 in
theorem mi_352 : xMs[352]? = some xm_352 := rfl
theorem xin_352 : xm_352 ∈ xMs := List.mem_of_getElem? mi_352
set_option maxRecDepth 20000 in
theorem mi_353 : xMs[353]? = some xm_353 := rfl
theorem xin_353 : xm_353 ∈ xMs := List.mem_of_getElem? mi_353
set_option maxRecDepth 20000 in
theorem mi_354 : xMs[354]? = some xm_354 := rfl
theorem xin_354 : xm_354 ∈ xMs := List.mem_of_getElem? mi_354
set_option maxRecDepth 20000 in
theorem mi_355 : xMs[355]? = some xm_355 := rfl
theorem xin_355 : xm_355 ∈ xMs := List.mem_of_getElem? mi_355
set_option maxRecDepth 20000 in
theorem mi_356 : xMs[356]? = some xm_356 := rfl
theorem xin_356 : xm_356 ∈ xMs := List.mem_of_getElem? mi_356
set_option maxRecDepth 20000 in
theorem mi_357 : xMs[357]? = some xm_357 := rfl
theorem xin_357 : xm_357 ∈ xMs := List.mem_of_getElem? mi_357
set_option maxRecDepth 20000 in
theorem mi_358 : xMs[358]? = some xm_358 := rfl
theorem xin_358 : xm_358 ∈ xMs := List.mem_of_getElem? mi_358
set_option maxRecDepth 20000 in
theorem mi_359 : xMs[359]? = some xm_359 := rfl
theorem xin_359 : xm_359 ∈ xMs := List.mem_of_getElem? mi_359
set_option maxRecDepth 20000 in
theorem mi_360 : xMs[360]? = some xm_360 := rfl
theorem xin_360 : xm_360 ∈ xMs := List.mem_of_getElem? mi_360
set_option maxRecDepth 20000 in
theorem mi_361 : xMs[361]? = some xm_361 := rfl
theorem xin_361 : xm_361 ∈ xMs := List.mem_of_getElem? mi_361
set_option maxRecDepth 20000 in
theorem mi_362 : xMs[362]? = some xm_362 := rfl
theorem xin_362 : xm_362 ∈ xMs := List.mem_of_getElem? mi_362
set_option maxRecDepth 20000 in
theorem mi_363 : xMs[363]? = some xm_363 := rfl
theorem xin_363 : xm_363 ∈ xMs := List.mem_of_getElem? mi_363
set_option maxRecDepth 20000 in
theorem mi_364 : xMs[364]? = some xm_364 := rfl
theorem xin_364 : xm_364 ∈ xMs := List.mem_of_getElem? mi_364
set_option maxRecDepth 20000 in
theorem mi_365 : xMs[365]? = some xm_365 := rfl
theorem xin_365 : xm_365 ∈ xMs := List.mem_of_getElem? mi_365
set_option maxRecDepth 20000 in
theorem mi_366 : xMs[366]? = some xm_366 := rfl
theorem xin_366 : xm_366 ∈ xMs := List.mem_of_getElem? mi_366
set_option maxRecDepth 20000 in
theorem mi_367 : xMs[367]? = some xm_367 := rfl
theorem xin_367 : xm_367 ∈ xMs := List.mem_of_getElem? mi_367
set_option maxRecDepth 20000 in
theorem mi_368 : xMs[368]? = some xm_368 := rfl
theorem xin_368 : xm_368 ∈ xMs := List.mem_of_getElem? mi_368
set_option maxRecDepth 20000 in
theorem mi_369 : xMs[369]? = some xm_369 := rfl
theorem xin_369 : xm_369 ∈ xMs := List.mem_of_getElem? mi_369
set_option maxRecDepth 20000 in
theorem mi_370 : xMs[370]? = some xm_370 := rfl
theorem xin_370 : xm_370 ∈ xMs := List.mem_of_getElem? mi_370
set_option maxRecDepth 20000 in
theorem mi_371 : xMs[371]? = some xm_371 := rfl
theorem xin_371 : xm_371 ∈ xMs := List.mem_of_getElem? mi_371
set_option maxRecDepth 20000 in
theorem mi_372 : xMs[372]? = some xm_372 := rfl
theorem xin_372 : xm_372 ∈ xMs := List.mem_of_getElem? mi_372
set_option maxRecDepth 20000 in
theorem mi_373 : xMs[373]? = some xm_373 := rfl
theorem xin_373 : xm_373 ∈ xMs := List.mem_of_getElem? mi_373
set_option maxRecDepth 20000 in
theorem mi_374 : xMs[374]? = some xm_374 := rfl
theorem xin_374 : xm_374 ∈ xMs := List.mem_of_getElem? mi_374
set_option maxRecDepth 20000 in
theorem mi_375 : xMs[375]? = some xm_375 := rfl
theorem xin_375 : xm_375 ∈ xMs := List.mem_of_getElem? mi_375
set_option maxRecDepth 20000 in
theorem mi_376 : xMs[376]? = some xm_376 := rfl
theorem xin_376 : xm_376 ∈ xMs := List.mem_of_getElem? mi_376
set_option maxRecDepth 20000 in
theorem mi_377 : xMs[377]? = some xm_377 := rfl
theorem xin_377 : xm_377 ∈ xMs := List.mem_of_getElem? mi_377
set_option maxRecDepth 20000 in
theorem mi_378 : xMs[378]? = some xm_378 := rfl
theorem xin_378 : xm_378 ∈ xMs := List.mem_of_getElem? mi_378
set_option maxRecDepth 20000 in
theorem mi_379 : xMs[379]? = some xm_379 := rfl
theorem xin_379 : xm_379 ∈ xMs := List.mem_of_getElem? mi_379
set_option maxRecDepth 20000 in
theorem mi_380 : xMs[380]? = some xm_380 := rfl
theorem xin_380 : xm_380 ∈ xMs := List.mem_of_getElem? mi_380
set_option maxRecDepth 20000 in
theorem mi_381 : xMs[381]? = some xm_381 := rfl
theorem xin_381 : xm_381 ∈ xMs := List.mem_of_getElem? mi_381
set_option maxRecDepth 20000 in
theorem mi_382 : xMs[382]? = some xm_382 := rfl
theorem xin_382 : xm_382 ∈ xMs := List.mem_of_getElem? mi_382
set_option maxRecDepth 20000 in
theorem mi_383 : xMs[383]? = some xm_383 := rfl
theorem xin_383 : xm_383 ∈ xMs := List.mem_of_getElem? mi_383
set_option maxRecDepth 20000 in
theorem mi_384 : xMs[384]? = some xm_384 := rfl
theorem xin_384 : xm_384 ∈ xMs := List.mem_of_getElem? mi_384
set_option maxRecDepth 20000 in
theorem mi_385 : xMs[385]? = some xm_385 := rfl
theorem xin_385 : xm_385 ∈ xMs := List.mem_of_getElem? mi_385
set_option maxRecDepth 20000 in
theorem mi_386 : xMs[386]? = some xm_386 := rfl
theorem xin_386 : xm_386 ∈ xMs := List.mem_of_getElem? mi_386
set_option maxRecDepth 20000 in
theorem mi_387 : xMs[387]? = some xm_387 := rfl
theorem xin_387 : xm_387 ∈ xMs := List.mem_of_getElem? mi_387
set_option maxRecDepth 20000 in
theorem mi_388 : xMs[388]? = some xm_388 := rfl
theorem xin_388 : xm_388 ∈ xMs := List.mem_of_getElem? mi_388
set_option maxRecDepth 20000 in
theorem mi_389 : xMs[389]? = some xm_389 := rfl
theorem xin_389 : xm_389 ∈ xMs := List.mem_of_getElem? mi_389
set_option maxRecDepth 20000 in
theorem mi_390 : xMs[390]? = some xm_390 := rfl
theorem xin_390 : xm_390 ∈ xMs := List.mem_of_getElem? mi_390
set_option maxRecDepth 20000 in
theorem mi_391 : xMs[391]? = some xm_391 := rfl
theorem xin_391 : xm_391 ∈ xMs := List.mem_of_getElem? mi_391
set_option maxRecDepth 20000 in
theorem mi_392 : xMs[392]? = some xm_392 := rfl
theorem xin_392 : xm_392 ∈ xMs := List.mem_of_getElem? mi_392
set_option maxRecDepth 20000 in
theorem mi_393 : xMs[393]? = some xm_393 := rfl
theorem xin_393 : xm_393 ∈ xMs := List.mem_of_getElem? mi_393
set_option maxRecDepth 20000 in
theorem mi_394 : xMs[394]? = some xm_394 := rfl
theorem xin_394 : xm_394 ∈ xMs := List.mem_of_getElem? mi_394
set_option maxRecDepth 20000 in
theorem mi_395 : xMs[395]? = some xm_395 := rfl
theorem xin_395 : xm_395 ∈ xMs := List.mem_of_getElem? mi_395
set_option maxRecDepth 20000 in
theorem mi_396 : xMs[396]? = some xm_396 := rfl
theorem xin_396 : xm_396 ∈ xMs := List.mem_of_getElem? mi_396
set_option maxRecDepth 20000 in
theorem mi_397 : xMs[397]? = some xm_397 := rfl
theorem xin_397 : xm_397 ∈ xMs := List.mem_of_getElem? mi_397
set_option maxRecDepth 20000 in
theorem mi_398 : xMs[398]? = some xm_398 := rfl
theorem xin_398 : xm_398 ∈ xMs := List.mem_of_getElem? mi_398
set_option maxRecDepth 20000 in
theorem mi_399 : xMs[399]? = some xm_399 := rfl
theorem xin_399 : xm_399 ∈ xMs := List.mem_of_getElem? mi_399
set_option maxRecDepth 20000 in
theorem mi_400 : xMs[400]? = some xm_400 := rfl
theorem xin_400 : xm_400 ∈ xMs := List.mem_of_getElem? mi_400
set_option maxRecDepth 20000 in
theorem mi_401 : xMs[401]? = some xm_401 := rfl
theorem xin_401 : xm_401 ∈ xMs := List.mem_of_getElem? mi_401
set_option maxRecDepth 20000 in
theorem mi_402 : xMs[402]? = some xm_402 := rfl
theorem xin_402 : xm_402 ∈ xMs := List.mem_of_getElem? mi_402
set_option maxRecDepth 20000 in
theorem mi_403 : xMs[403]? = some xm_403 := rfl
theorem xin_403 : xm_403 ∈ xMs := List.mem_of_getElem? mi_403
set_option maxRecDepth 20000 in
theorem mi_404 : xMs[404]? = some xm_404 := rfl
theorem xin_404 : xm_404 ∈ xMs := List.mem_of_getElem? mi_404
set_option maxRecDepth 20000 in
theorem mi_405 : xMs[405]? = some xm_405 := rfl
theorem xin_405 : xm_405 ∈ xMs := List.mem_of_getElem? mi_405
set_option maxRecDepth 20000 in
theorem mi_406 : xMs[406]? = some xm_406 := rfl
theorem xin_406 : xm_406 ∈ xMs := List.mem_of_getElem? mi_406
set_option maxRecDepth 20000 in
theorem mi_407 : xMs[407]? = some xm_407 := rfl
theorem xin_407 : xm_407 ∈ xMs := List.mem_of_getElem? mi_407
set_option maxRecDepth 20000 in
theorem mi_408 : xMs[408]? = some xm_408 := rfl
theorem xin_408 : xm_408 ∈ xMs := List.mem_of_getElem? mi_408
set_option maxRecDepth 20000 in
theorem mi_409 : xMs[409]? = some xm_409 := rfl
theorem xin_409 : xm_409 ∈ xMs := List.mem_of_getElem? mi_409
set_option maxRecDepth 20000 in
theorem mi_410 : xMs[410]? = some xm_410 := rfl
theorem xin_410 : xm_410 ∈ xMs := List.mem_of_getElem? mi_410
set_option maxRecDepth 20000 in
theorem mi_411 : xMs[411]? = some xm_411 := rfl
theorem xin_411 : xm_411 ∈ xMs := List.mem_of_getElem? mi_411
set_option maxRecDepth 20000 in
theorem mi_412 : xMs[412]? = some xm_412 := rfl
theorem xin_412 : xm_412 ∈ xMs := List.mem_of_getElem? mi_412
set_option maxRecDepth 20000 in
theorem mi_413 : xMs[413]? = some xm_413 := rfl
theorem xin_413 : xm_413 ∈ xMs := List.mem_of_getElem? mi_413
set_option maxRecDepth 20000 in
theorem mi_414 : xMs[414]? = some xm_414 := rfl
theorem xin_414 : xm_414 ∈ xMs := List.mem_of_getElem? mi_414
set_option maxRecDepth 20000 in
theorem mi_415 : xMs[415]? = some xm_415 := rfl
theorem xin_415 : xm_415 ∈ xMs := List.mem_of_getElem? mi_415
set_option maxRecDepth 20000 in
theorem mi_416 : xMs[416]? = some xm_416 := rfl
theorem xin_416 : xm_416 ∈ xMs := List.mem_of_getElem? mi_416
set_option maxRecDepth 20000 in
theorem mi_417 : xMs[417]? = some xm_417 := rfl
theorem xin_417 : xm_417 ∈ xMs := List.mem_of_getElem? mi_417
set_option maxRecDepth 20000 in
theorem mi_418 : xMs[418]? = some xm_418 := rfl
theorem xin_418 : xm_418 ∈ xMs := List.mem_of_getElem? mi_418
set_option maxRecDepth 20000 in
theorem mi_419 : xMs[419]? = some xm_419 := rfl
theorem xin_419 : xm_419 ∈ xMs := List.mem_of_getElem? mi_419
set_option maxRecDepth 20000 in
theorem mi_420 : xMs[420]? = some xm_420 := rfl
theorem xin_420 : xm_420 ∈ xMs := List.mem_of_getElem? mi_420
set_option maxRecDepth 20000 in
theorem mi_421 : xMs[421]? = some xm_421 := rfl
theorem xin_421 : xm_421 ∈ xMs := List.mem_of_getElem? mi_421
set_option maxRecDepth 20000 in
theorem mi_422 : xMs[422]? = some xm_422 := rfl
theorem xin_422 : xm_422 ∈ xMs := List.mem_of_getElem? mi_422
set_option maxRecDepth 20000 in
theorem mi_423 : xMs[423]? = some xm_423 := rfl
theorem xin_423 : xm_423 ∈ xMs := List.mem_of_getElem? mi_423
set_option maxRecDepth 20000 in
theorem mi_424 : xMs[424]? = some xm_424 := rfl
theorem xin_424 : xm_424 ∈ xMs := List.mem_of_getElem? mi_424
set_option maxRecDepth 20000 in
theorem mi_425 : xMs[425]? = some xm_425 := rfl
theorem xin_425 : xm_425 ∈ xMs := List.mem_of_getElem? mi_425
set_option maxRecDepth 20000 in
theorem mi_426 : xMs[426]? = some xm_426 := rfl
theorem xin_426 : xm_426 ∈ xMs := List.mem_of_getElem? mi_426
set_option maxRecDepth 20000 in
theorem mi_427 : xMs[427]? = some xm_427 := rfl
theorem xin_427 : xm_427 ∈ xMs := List.mem_of_getElem? mi_427
set_option maxRecDepth 20000 in
theorem mi_428 : xMs[428]? = some xm_428 := rfl
theorem xin_428 : xm_428 ∈ xMs := List.mem_of_getElem? mi_428
set_option maxRecDepth 20000 in
theorem mi_429 : xMs[429]? = some xm_429 := rfl
theorem xin_429 : xm_429 ∈ xMs := List.mem_of_getElem? mi_429
set_option maxRecDepth 20000 in
theorem mi_430 : xMs[430]? = some xm_430 := rfl
theorem xin_430 : xm_430 ∈ xMs := List.mem_of_getElem? mi_430
set_option maxRecDepth 20000 in
theorem mi_431 : xMs[431]? = some xm_431 := rfl
theorem xin_431 : xm_431 ∈ xMs := List.mem_of_getElem? mi_431
set_option maxRecDepth 20000 in
theorem mi_432 : xMs[432]? = some xm_432 := rfl
theorem xin_432 : xm_432 ∈ xMs := List.mem_of_getElem? mi_432
set_option maxRecDepth 20000 in
theorem mi_433 : xMs[433]? = some xm_433 := rfl
theorem xin_433 : xm_433 ∈ xMs := List.mem_of_getElem? mi_433
set_option maxRecDepth 20000 in
theorem mi_434 : xMs[434]? = some xm_434 := rfl
theorem xin_434 : xm_434 ∈ xMs := List.mem_of_getElem? mi_434
set_option maxRecDepth 20000 in
theorem mi_435 : xMs[435]? = some xm_435 := rfl
theorem xin_435 : xm_435 ∈ xMs := List.mem_of_getElem? mi_435
set_option maxRecDepth 20000 in
theorem mi_436 : xMs[436]? = some xm_436 := rfl
theorem xin_436 : xm_436 ∈ xMs := List.mem_of_getElem? mi_436
set_option maxRecDepth 20000 in
theorem mi_437 : xMs[437]? = some xm_437 := rfl
theorem xin_437 : xm_437 ∈ xMs := List.mem_of_getElem? mi_437
set_option maxRecDepth 20000 in
theorem mi_438 : xMs[438]? = some xm_438 := rfl
theorem xin_438 : xm_438 ∈ xMs := List.mem_of_getElem? mi_438
set_option maxRecDepth 20000 in
theorem mi_439 : xMs[439]? = some xm_439 := rfl
theorem xin_439 : xm_439 ∈ xMs := List.mem_of_getElem? mi_439
set_option maxRecDepth 20000 in
theorem mi_440 : xMs[440]? = some xm_440 := rfl
theorem xin_440 : xm_440 ∈ xMs := List.mem_of_getElem? mi_440
set_option maxRecDepth 20000 in
theorem mi_441 : xMs[441]? = some xm_441 := rfl
theorem xin_441 : xm_441 ∈ xMs := List.mem_of_getElem? mi_441
set_option maxRecDepth 20000 in
theorem mi_442 : xMs[442]? = some xm_442 := rfl
theorem xin_442 : xm_442 ∈ xMs := List.mem_of_getElem? mi_442
set_option maxRecDepth 20000 in
theorem mi_443 : xMs[443]? = some xm_443 := rfl
theorem xin_443 : xm_443 ∈ xMs := List.mem_of_getElem? mi_443
set_option maxRecDepth 20000 in
theorem mi_444 : xMs[444]? = some xm_444 := rfl
theorem xin_444 : xm_444 ∈ xMs := List.mem_of_getElem? mi_444
set_option maxRecDepth 20000 in
theorem mi_445 : xMs[445]? = some xm_445 := rfl
theorem xin_445 : xm_445 ∈ xMs := List.mem_of_getElem? mi_445
set_option maxRecDepth 20000 in
theorem mi_446 : xMs[446]? = some xm_446 := rfl
theorem xin_446 : xm_446 ∈ xMs := List.mem_of_getElem? mi_446
set_option maxRecDepth 20000 in
theorem mi_447 : xMs[447]? = some xm_447 := rfl
theorem xin_447 : xm_447 ∈ xMs := List.mem_of_getElem? mi_447
set_option maxRecDepth 20000 in
theorem mi_448 : xMs[448]? = some xm_448 := rfl
theorem xin_448 : xm_448 ∈ xMs := List.mem_of_getElem? mi_448
set_option maxRecDepth 20000 in
theorem mi_449 : xMs[449]? = some xm_449 := rfl
theorem xin_449 : xm_449 ∈ xMs := List.mem_of_getElem? mi_449
set_option maxRecDepth 20000 in
theorem mi_450 : xMs[450]? = some xm_450 := rfl
theorem xin_450 : xm_450 ∈ xMs := List.mem_of_getElem? mi_450
set_option maxRecDepth 20000 in
theorem mi_451 : xMs[451]? = some xm_451 := rfl
theorem xin_451 : xm_451 ∈ xMs := List.mem_of_getElem? mi_451
set_option maxRecDepth 20000 in
theorem mi_452 : xMs[452]? = some xm_452 := rfl
theorem xin_452 : xm_452 ∈ xMs := List.mem_of_getElem? mi_452
set_option maxRecDepth 20000 in
theorem mi_453 : xMs[453]? = some xm_453 := rfl
theorem xin_453 : xm_453 ∈ xMs := List.mem_of_getElem? mi_453
set_option maxRecDepth 20000 in
theorem mi_454 : xMs[454]? = some xm_454 := rfl
theorem xin_454 : xm_454 ∈ xMs := List.mem_of_getElem? mi_454
set_option maxRecDepth 20000 in
theorem mi_455 : xMs[455]? = some xm_455 := rfl
theorem xin_455 : xm_455 ∈ xMs := List.mem_of_getElem? mi_455
set_option maxRecDepth 20000 in
theorem mi_456 : xMs[456]? = some xm_456 := rfl
theorem xin_456 : xm_456 ∈ xMs := List.mem_of_getElem? mi_456
set_option maxRecDepth 20000 in
theorem mi_457 : xMs[457]? = some xm_457 := rfl
theorem xin_457 : xm_457 ∈ xMs := List.mem_of_getElem? mi_457
set_option maxRecDepth 20000 in
theorem mi_458 : xMs[458]? = some xm_458 := rfl
theorem xin_458 : xm_458 ∈ xMs := List.mem_of_getElem? mi_458
set_option maxRecDepth 20000 in
theorem mi_459 : xMs[459]? = some xm_459 := rfl
theorem xin_459 : xm_459 ∈ xMs := List.mem_of_getElem? mi_459
set_option maxRecDepth 20000 in
theorem mi_460 : xMs[460]? = some xm_460 := rfl
theorem xin_460 : xm_460 ∈ xMs := List.mem_of_getElem? mi_460
set_option maxRecDepth 20000 in
theorem mi_461 : xMs[461]? = some xm_461 := rfl
theorem xin_461 : xm_461 ∈ xMs := List.mem_of_getElem? mi_461
set_option maxRecDepth 20000 in
theorem mi_462 : xMs[462]? = some xm_462 := rfl
theorem xin_462 : xm_462 ∈ xMs := List.mem_of_getElem? mi_462
set_option maxRecDepth 20000 in
theorem mi_463 : xMs[463]? = some xm_463 := rfl
theorem xin_463 : xm_463 ∈ xMs := List.mem_of_getElem? mi_463
set_option maxRecDepth 20000 in
theorem mi_464 : xMs[464]? = some xm_464 := rfl
theorem xin_464 : xm_464 ∈ xMs := List.mem_of_getElem? mi_464
set_option maxRecDepth 20000 in
theorem mi_465 : xMs[465]? = some xm_465 := rfl
theorem xin_465 : xm_465 ∈ xMs := List.mem_of_getElem? mi_465
set_option maxRecDepth 20000 in
theorem mi_466 : xMs[466]? = some xm_466 := rfl
theorem xin_466 : xm_466 ∈ xMs := List.mem_of_getElem? mi_466
set_option maxRecDepth 20000 in
theorem mi_467 : xMs[467]? = some xm_467 := rfl
theorem xin_467 : xm_467 ∈ xMs := List.mem_of_getElem? mi_467
set_option maxRecDepth 20000 in
theorem mi_468 : xMs[468]? = some xm_468 := rfl
theorem xin_468 : xm_468 ∈ xMs := List.mem_of_getElem? mi_468
set_option maxRecDepth 20000 in
theorem mi_469 : xMs[469]? = some xm_469 := rfl
theorem xin_469 : xm_469 ∈ xMs := List.mem_of_getElem? mi_469
set_option maxRecDepth 20000 in
theorem mi_470 : xMs[470]? = some xm_470 := rfl
theorem xin_470 : xm_470 ∈ xMs := List.mem_of_getElem? mi_470
set_option maxRecDepth 20000 in
theorem mi_471 : xMs[471]? = some xm_471 := rfl
theorem xin_471 : xm_471 ∈ xMs := List.mem_of_getElem? mi_471
set_option maxRecDepth 20000 in
theorem mi_472 : xMs[472]? = some xm_472 := rfl
theorem xin_472 : xm_472 ∈ xMs := List.mem_of_getElem? mi_472
set_option maxRecDepth 20000 in
theorem mi_473 : xMs[473]? = some xm_473 := rfl
theorem xin_473 : xm_473 ∈ xMs := List.mem_of_getElem? mi_473
set_option maxRecDepth 20000 in
theorem mi_474 : xMs[474]? = some xm_474 := rfl
theorem xin_474 : xm_474 ∈ xMs := List.mem_of_getElem? mi_474
set_option maxRecDepth 20000 in
theorem mi_475 : xMs[475]? = some xm_475 := rfl
theorem xin_475 : xm_475 ∈ xMs := List.mem_of_getElem? mi_475
set_option maxRecDepth 20000 in
theorem mi_476 : xMs[476]? = some xm_476 := rfl
theorem xin_476 : xm_476 ∈ xMs := List.mem_of_getElem? mi_476
set_option maxRecDepth 20000 in
theorem mi_477 : xMs[477]? = some xm_477 := rfl
theorem xin_477 : xm_477 ∈ xMs := List.mem_of_getElem? mi_477
set_option maxRecDepth 20000 in
theorem mi_478 : xMs[478]? = some xm_478 := rfl
theorem xin_478 : xm_478 ∈ xMs := List.mem_of_getElem? mi_478
set_option maxRecDepth 20000 in
theorem mi_479 : xMs[479]? = some xm_479 := rfl
theorem xin_479 : xm_479 ∈ xMs := List.mem_of_getElem? mi_479
set_option maxRecDepth 20000 in
theorem mi_480 : xMs[480]? = some xm_480 := rfl
theorem xin_480 : xm_480 ∈ xMs := List.mem_of_getElem? mi_480
set_option maxRecDepth 20000 in
theorem mi_481 : xMs[481]? = some xm_481 := rfl
theorem xin_481 : xm_481 ∈ xMs := List.mem_of_getElem? mi_481
set_option maxRecDepth 20000 in
theorem mi_482 : xMs[482]? = some xm_482 := rfl
theorem xin_482 : xm_482 ∈ xMs := List.mem_of_getElem? mi_482
set_option maxRecDepth 20000 in
theorem mi_483 : xMs[483]? = some xm_483 := rfl
theorem xin_483 : xm_483 ∈ xMs := List.mem_of_getElem? mi_483
set_option maxRecDepth 20000 in
theorem mi_484 : xMs[484]? = some xm_484 := rfl
theorem xin_484 : xm_484 ∈ xMs := List.mem_of_getElem? mi_484
set_option maxRecDepth 20000 in
theorem mi_485 : xMs[485]? = some xm_485 := rfl
theorem xin_485 : xm_485 ∈ xMs := List.mem_of_getElem? mi_485
set_option maxRecDepth 20000 in
theorem mi_486 : xMs[486]? = some xm_486 := rfl
theorem xin_486 : xm_486 ∈ xMs := List.mem_of_getElem? mi_486
set_option maxRecDepth 20000 in
theorem mi_487 : xMs[487]? = some xm_487 := rfl
theorem xin_487 : xm_487 ∈ xMs := List.mem_of_getElem? mi_487
set_option maxRecDepth 20000 in
theorem mi_488 : xMs[488]? = some xm_488 := rfl
theorem xin_488 : xm_488 ∈ xMs := List.mem_of_getElem? mi_488
set_option maxRecDepth 20000 in
theorem mi_489 : xMs[489]? = some xm_489 := rfl
theorem xin_489 : xm_489 ∈ xMs := List.mem_of_getElem? mi_489
set_option maxRecDepth 20000 in
theorem mi_490 : xMs[490]? = some xm_490 := rfl
theorem xin_490 : xm_490 ∈ xMs := List.mem_of_getElem? mi_490
set_option maxRecDepth 20000 in
theorem mi_491 : xMs[491]? = some xm_491 := rfl
theorem xin_491 : xm_491 ∈ xMs := List.mem_of_getElem? mi_491
set_option maxRecDepth 20000 in
theorem mi_492 : xMs[492]? = some xm_492 := rfl
theorem xin_492 : xm_492 ∈ xMs := List.mem_of_getElem? mi_492
set_option maxRecDepth 20000 in
theorem mi_493 : xMs[493]? = some xm_493 := rfl
theorem xin_493 : xm_493 ∈ xMs := List.mem_of_getElem? mi_493
set_option maxRecDepth 20000 in
theorem mi_494 : xMs[494]? = some xm_494 := rfl
theorem xin_494 : xm_494 ∈ xMs := List.mem_of_getElem? mi_494
set_option maxRecDepth 20000 in
theorem mi_495 : xMs[495]? = some xm_495 := rfl
theorem xin_495 : xm_495 ∈ xMs := List.mem_of_getElem? mi_495
set_option maxRecDepth 20000 in
theorem mi_496 : xMs[496]? = some xm_496 := rfl
theorem xin_496 : xm_496 ∈ xMs := List.mem_of_getElem? mi_496
set_option maxRecDepth 20000 in
theorem mi_497 : xMs[497]? = some xm_497 := rfl
theorem xin_497 : xm_497 ∈ xMs := List.mem_of_getElem? mi_497
set_option maxRecDepth 20000 in
theorem mi_498 : xMs[498]? = some xm_498 := rfl
theorem xin_498 : xm_498 ∈ xMs := List.mem_of_getElem? mi_498
set_option maxRecDepth 20000 in
theorem mi_499 : xMs[499]? = some xm_499 := rfl
theorem xin_499 : xm_499 ∈ xMs := List.mem_of_getElem? mi_499
set_option maxRecDepth 20000 in
theorem mi_500 : xMs[500]? = some xm_500 := rfl
theorem xin_500 : xm_500 ∈ xMs := List.mem_of_getElem? mi_500

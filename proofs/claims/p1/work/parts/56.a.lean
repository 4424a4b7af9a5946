/-! the law's cases (written by gen42.py) -/
theorem lw_ok_132 : lw_Ok xm_132 0 := ⟨xwg_of (i := 9243) (by decide +kernel), xpos (i := 9217) (by decide +kernel), xpos (i := 9242) (by decide +kernel), by decide +kernel, by decide +kernel⟩
theorem lw_lk_132 : Jvm.Cond.methodLink R_law 9 xm_132.1 ∈ lw_tbl := xpos (i := 9241) (by decide +kernel)
theorem xin_132 : xm_132 ∈ xMs := List.mem_of_getElem? (i := 132) rfl
theorem lw_ok_133 : lw_Ok xm_133 0 := ⟨xwg_of (i := 15574) (by decide +kernel), xpos (i := 9230) (by decide +kernel), xpos (i := 15573) (by decide +kernel), by decide +kernel, by decide +kernel⟩
theorem lw_lk_133 : Jvm.Cond.methodLink R_law 12 xm_133.1 ∈ lw_tbl := xpos (i := 15572) (by decide +kernel)
theorem xin_133 : xm_133 ∈ xMs := List.mem_of_getElem? (i := 133) rfl
theorem lw_ok_134 : lw_Ok xm_134 1 := ⟨xwg_of (i := 11355) (by decide +kernel), xpos (i := 9217) (by decide +kernel), xpos (i := 11353) (by decide +kernel), by decide +kernel, by decide +kernel⟩
theorem lw_ok_135 : lw_Ok xm_135 1 := ⟨xwg_of (i := 16484) (by decide +kernel), xpos (i := 9230) (by decide +kernel), xpos (i := 16482) (by decide +kernel), by decide +kernel, by decide +kernel⟩
theorem xin_134 : xm_134 ∈ xMs := List.mem_of_getElem? (i := 134) rfl
theorem xin_135 : xm_135 ∈ xMs := List.mem_of_getElem? (i := 135) rfl
theorem lw_lk_134 : Jvm.Cond.methodLink R_law 13 xm_134.1 ∈ lw_tbl ∧ Jvm.Cond.selects xm_134.1.cls xm_134.1 xm_134.1 ∈ lw_tbl := ⟨xpos (i := 11352) (by decide +kernel), xpos (i := 11354) (by decide +kernel)⟩
theorem lw_lk_135 : Jvm.Cond.methodLink R_law 17 xm_135.1 ∈ lw_tbl ∧ Jvm.Cond.selects xm_135.1.cls xm_135.1 xm_135.1 ∈ lw_tbl := ⟨xpos (i := 16481) (by decide +kernel), xpos (i := 16483) (by decide +kernel)⟩
theorem lw_ok_136 : lw_Ok xm_136 3 := ⟨xwg_of (i := 11374) (by decide +kernel), xpos (i := 9217) (by decide +kernel), xpos (i := 11372) (by decide +kernel), by decide +kernel, by decide +kernel⟩
theorem lw_ok_137 : lw_Ok xm_137 3 := ⟨xwg_of (i := 16498) (by decide +kernel), xpos (i := 9230) (by decide +kernel), xpos (i := 16496) (by decide +kernel), by decide +kernel, by decide +kernel⟩
theorem xin_136 : xm_136 ∈ xMs := List.mem_of_getElem? (i := 136) rfl
theorem xin_137 : xm_137 ∈ xMs := List.mem_of_getElem? (i := 137) rfl
theorem lw_lk_136 : Jvm.Cond.methodLink R_law 18 xm_136.1 ∈ lw_tbl ∧ Jvm.Cond.selects xm_136.1.cls xm_136.1 xm_136.1 ∈ lw_tbl := ⟨xpos (i := 11371) (by decide +kernel), xpos (i := 11373) (by decide +kernel)⟩
theorem lw_lk_137 : Jvm.Cond.methodLink R_law 22 xm_137.1 ∈ lw_tbl ∧ Jvm.Cond.selects xm_137.1.cls xm_137.1 xm_137.1 ∈ lw_tbl := ⟨xpos (i := 16495) (by decide +kernel), xpos (i := 16497) (by decide +kernel)⟩
theorem lw_ok_138 : lw_Ok xm_138 2 := ⟨xwg_of (i := 11387) (by decide +kernel), xpos (i := 9217) (by decide +kernel), xpos (i := 11385) (by decide +kernel), by decide +kernel, by decide +kernel⟩
theorem lw_ok_139 : lw_Ok xm_139 2 := ⟨xwg_of (i := 16513) (by decide +kernel), xpos (i := 9230) (by decide +kernel), xpos (i := 16511) (by decide +kernel), by decide +kernel, by decide +kernel⟩
theorem xin_138 : xm_138 ∈ xMs := List.mem_of_getElem? (i := 138) rfl
theorem xin_139 : xm_139 ∈ xMs := List.mem_of_getElem? (i := 139) rfl
theorem lw_lk_138 : Jvm.Cond.methodLink R_law 23 xm_138.1 ∈ lw_tbl ∧ Jvm.Cond.selects xm_138.1.cls xm_138.1 xm_138.1 ∈ lw_tbl := ⟨xpos (i := 11384) (by decide +kernel), xpos (i := 11386) (by decide +kernel)⟩
theorem lw_lk_139 : Jvm.Cond.methodLink R_law 27 xm_139.1 ∈ lw_tbl ∧ Jvm.Cond.selects xm_139.1.cls xm_139.1 xm_139.1 ∈ lw_tbl := ⟨xpos (i := 16510) (by decide +kernel), xpos (i := 16512) (by decide +kernel)⟩
theorem lw_ok_140 : lw_Ok xm_140 3 := ⟨xwg_of (i := 11403) (by decide +kernel), xpos (i := 9217) (by decide +kernel), xpos (i := 11401) (by decide +kernel), by decide +kernel, by decide +kernel⟩
theorem lw_ok_141 : lw_Ok xm_141 3 := ⟨xwg_of (i := 16538) (by decide +kernel), xpos (i := 9230) (by decide +kernel), xpos (i := 16536) (by decide +kernel), by decide +kernel, by decide +kernel⟩
theorem xin_140 : xm_140 ∈ xMs := List.mem_of_getElem? (i := 140) rfl
theorem xin_141 : xm_141 ∈ xMs := List.mem_of_getElem? (i := 141) rfl
theorem lw_lk_140 : Jvm.Cond.methodLink R_law 28 xm_140.1 ∈ lw_tbl ∧ Jvm.Cond.selects xm_140.1.cls xm_140.1 xm_140.1 ∈ lw_tbl := ⟨xpos (i := 11400) (by decide +kernel), xpos (i := 11402) (by decide +kernel)⟩
theorem lw_lk_141 : Jvm.Cond.methodLink R_law 31 xm_141.1 ∈ lw_tbl ∧ Jvm.Cond.selects xm_141.1.cls xm_141.1 xm_141.1 ∈ lw_tbl := ⟨xpos (i := 16535) (by decide +kernel), xpos (i := 16537) (by decide +kernel)⟩
theorem lw_ok_142 : lw_Ok xm_142 3 := ⟨xwg_of (i := 11411) (by decide +kernel), xpos (i := 9217) (by decide +kernel), xpos (i := 11409) (by decide +kernel), by decide +kernel, by decide +kernel⟩
theorem lw_ok_143 : lw_Ok xm_143 3 := ⟨xwg_of (i := 16543) (by decide +kernel), xpos (i := 9230) (by decide +kernel), xpos (i := 16541) (by decide +kernel), by decide +kernel, by decide +kernel⟩
theorem xin_142 : xm_142 ∈ xMs := List.mem_of_getElem? (i := 142) rfl
theorem xin_143 : xm_143 ∈ xMs := List.mem_of_getElem? (i := 143) rfl
theorem lw_lk_142 : Jvm.Cond.methodLink R_law 32 xm_142.1 ∈ lw_tbl ∧ Jvm.Cond.selects xm_142.1.cls xm_142.1 xm_142.1 ∈ lw_tbl := ⟨xpos (i := 11408) (by decide +kernel), xpos (i := 11410) (by decide +kernel)⟩
theorem lw_lk_143 : Jvm.Cond.methodLink R_law 35 xm_143.1 ∈ lw_tbl ∧ Jvm.Cond.selects xm_143.1.cls xm_143.1 xm_143.1 ∈ lw_tbl := ⟨xpos (i := 16540) (by decide +kernel), xpos (i := 16542) (by decide +kernel)⟩
theorem lw_ok_144 : lw_Ok xm_144 2 := ⟨xwg_of (i := 11468) (by decide +kernel), xpos (i := 9217) (by decide +kernel), xpos (i := 11466) (by decide +kernel), by decide +kernel, by decide +kernel⟩
theorem lw_ok_145 : lw_Ok xm_145 2 := ⟨xwg_of (i := 16591) (by decide +kernel), xpos (i := 9230) (by decide +kernel), xpos (i := 16589) (by decide +kernel), by decide +kernel, by decide +kernel⟩
theorem xin_144 : xm_144 ∈ xMs := List.mem_of_getElem? (i := 144) rfl
theorem xin_145 : xm_145 ∈ xMs := List.mem_of_getElem? (i := 145) rfl
theorem lw_lk_144 : Jvm.Cond.methodLink R_law 36 xm_144.1 ∈ lw_tbl ∧ Jvm.Cond.selects xm_144.1.cls xm_144.1 xm_144.1 ∈ lw_tbl := ⟨xpos (i := 11465) (by decide +kernel), xpos (i := 11467) (by decide +kernel)⟩
theorem lw_lk_145 : Jvm.Cond.methodLink R_law 39 xm_145.1 ∈ lw_tbl ∧ Jvm.Cond.selects xm_145.1.cls xm_145.1 xm_145.1 ∈ lw_tbl := ⟨xpos (i := 16588) (by decide +kernel), xpos (i := 16590) (by decide +kernel)⟩
theorem lw_ok_146 : lw_Ok xm_146 3 := ⟨xwg_of (i := 11472) (by decide +kernel), xpos (i := 9217) (by decide +kernel), xpos (i := 11470) (by decide +kernel), by decide +kernel, by decide +kernel⟩
theorem lw_ok_147 : lw_Ok xm_147 3 := ⟨xwg_of (i := 16595) (by decide +kernel), xpos (i := 9230) (by decide +kernel), xpos (i := 16593) (by decide +kernel), by decide +kernel, by decide +kernel⟩
theorem xin_146 : xm_146 ∈ xMs := List.mem_of_getElem? (i := 146) rfl
theorem xin_147 : xm_147 ∈ xMs := List.mem_of_getElem? (i := 147) rfl
theorem lw_lk_146 : Jvm.Cond.methodLink R_law 40 xm_146.1 ∈ lw_tbl ∧ Jvm.Cond.selects xm_146.1.cls xm_146.1 xm_146.1 ∈ lw_tbl := ⟨xpos (i := 11469) (by decide +kernel), xpos (i := 11471) (by decide +kernel)⟩
theorem lw_lk_147 : Jvm.Cond.methodLink R_law 43 xm_147.1 ∈ lw_tbl ∧ Jvm.Cond.selects xm_147.1.cls xm_147.1 xm_147.1 ∈ lw_tbl := ⟨xpos (i := 16592) (by decide +kernel), xpos (i := 16594) (by decide +kernel)⟩
theorem lw_ok_148 : lw_Ok xm_148 5 := ⟨xwg_of (i := 11476) (by decide +kernel), xpos (i := 9217) (by decide +kernel), xpos (i := 11474) (by decide +kernel), by decide +kernel, by decide +kernel⟩
theorem lw_ok_149 : lw_Ok xm_149 5 := ⟨xwg_of (i := 16600) (by decide +kernel), xpos (i := 9230) (by decide +kernel), xpos (i := 16598) (by decide +kernel), by decide +kernel, by decide +kernel⟩
theorem xin_148 : xm_148 ∈ xMs := List.mem_of_getElem? (i := 148) rfl
theorem xin_149 : xm_149 ∈ xMs := List.mem_of_getElem? (i := 149) rfl
theorem lw_lk_148 : Jvm.Cond.methodLink R_law 44 xm_148.1 ∈ lw_tbl ∧ Jvm.Cond.selects xm_148.1.cls xm_148.1 xm_148.1 ∈ lw_tbl := ⟨xpos (i := 11473) (by decide +kernel), xpos (i := 11475) (by decide +kernel)⟩
theorem lw_lk_149 : Jvm.Cond.methodLink R_law 48 xm_149.1 ∈ lw_tbl ∧ Jvm.Cond.selects xm_149.1.cls xm_149.1 xm_149.1 ∈ lw_tbl := ⟨xpos (i := 16597) (by decide +kernel), xpos (i := 16599) (by decide +kernel)⟩
theorem lw_ok_150 : lw_Ok xm_150 2 := ⟨xwg_of (i := 11492) (by decide +kernel), xpos (i := 9217) (by decide +kernel), xpos (i := 11490) (by decide +kernel), by decide +kernel, by decide +kernel⟩
theorem lw_ok_151 : lw_Ok xm_151 2 := ⟨xwg_of (i := 16619) (by decide +kernel), xpos (i := 9230) (by decide +kernel), xpos (i := 16617) (by decide +kernel), by decide +kernel, by decide +kernel⟩
theorem xin_150 : xm_150 ∈ xMs := List.mem_of_getElem? (i := 150) rfl
theorem xin_151 : xm_151 ∈ xMs := List.mem_of_getElem? (i := 151) rfl
theorem lw_lk_150 : Jvm.Cond.methodLink R_law 49 xm_150.1 ∈ lw_tbl ∧ Jvm.Cond.selects xm_150.1.cls xm_150.1 xm_150.1 ∈ lw_tbl := ⟨xpos (i := 11489) (by decide +kernel), xpos (i := 11491) (by decide +kernel)⟩
theorem lw_lk_151 : Jvm.Cond.methodLink R_law 52 xm_151.1 ∈ lw_tbl ∧ Jvm.Cond.selects xm_151.1.cls xm_151.1 xm_151.1 ∈ lw_tbl := ⟨xpos (i := 16616) (by decide +kernel), xpos (i := 16618) (by decide +kernel)⟩
theorem lw_ok_152 : lw_Ok xm_152 2 := ⟨xwg_of (i := 12289) (by decide +kernel), xpos (i := 9217) (by decide +kernel), xpos (i := 11503) (by decide +kernel), by decide +kernel, by decide +kernel⟩
theorem lw_ok_153 : lw_Ok xm_153 2 := ⟨xwg_of (i := 17412) (by decide +kernel), xpos (i := 9230) (by decide +kernel), xpos (i := 17410) (by decide +kernel), by decide +kernel, by decide +kernel⟩
theorem xin_152 : xm_152 ∈ xMs := List.mem_of_getElem? (i := 152) rfl
theorem xin_153 : xm_153 ∈ xMs := List.mem_of_getElem? (i := 153) rfl
theorem lw_lk_152 : Jvm.Cond.methodLink R_law 53 xm_152.1 ∈ lw_tbl ∧ Jvm.Cond.selects xm_152.1.cls xm_152.1 xm_152.1 ∈ lw_tbl := ⟨xpos (i := 11502) (by decide +kernel), xpos (i := 12288) (by decide +kernel)⟩
theorem lw_lk_153 : Jvm.Cond.methodLink R_law 56 xm_153.1 ∈ lw_tbl ∧ Jvm.Cond.selects xm_153.1.cls xm_153.1 xm_153.1 ∈ lw_tbl := ⟨xpos (i := 17409) (by decide +kernel), xpos (i := 17411) (by decide +kernel)⟩
theorem lw_ok_154 : lw_Ok xm_154 3 := ⟨xwg_of (i := 12298) (by decide +kernel), xpos (i := 9217) (by decide +kernel), xpos (i := 12296) (by decide +kernel), by decide +kernel, by decide +kernel⟩
theorem lw_ok_155 : lw_Ok xm_155 3 := ⟨xwg_of (i := 17417) (by decide +kernel), xpos (i := 9230) (by decide +kernel), xpos (i := 17415) (by decide +kernel), by decide +kernel, by decide +kernel⟩
theorem xin_154 : xm_154 ∈ xMs := List.mem_of_getElem? (i := 154) rfl
theorem xin_155 : xm_155 ∈ xMs := List.mem_of_getElem? (i := 155) rfl
theorem lw_lk_154 : Jvm.Cond.methodLink R_law 57 xm_154.1 ∈ lw_tbl ∧ Jvm.Cond.selects xm_154.1.cls xm_154.1 xm_154.1 ∈ lw_tbl := ⟨xpos (i := 12295) (by decide +kernel), xpos (i := 12297) (by decide +kernel)⟩
theorem lw_lk_155 : Jvm.Cond.methodLink R_law 60 xm_155.1 ∈ lw_tbl ∧ Jvm.Cond.selects xm_155.1.cls xm_155.1 xm_155.1 ∈ lw_tbl := ⟨xpos (i := 17414) (by decide +kernel), xpos (i := 17416) (by decide +kernel)⟩
theorem lw_ok_156 : lw_Ok xm_156 1 := ⟨xwg_of (i := 12306) (by decide +kernel), xpos (i := 9217) (by decide +kernel), xpos (i := 12304) (by decide +kernel), by decide +kernel, by decide +kernel⟩
theorem lw_ok_157 : lw_Ok xm_157 1 := ⟨xwg_of (i := 17421) (by decide +kernel), xpos (i := 9230) (by decide +kernel), xpos (i := 17419) (by decide +kernel), by decide +kernel, by decide +kernel⟩
theorem xin_156 : xm_156 ∈ xMs := List.mem_of_getElem? (i := 156) rfl
theorem xin_157 : xm_157 ∈ xMs := List.mem_of_getElem? (i := 157) rfl
theorem lw_lk_156 : Jvm.Cond.methodLink R_law 61 xm_156.1 ∈ lw_tbl ∧ Jvm.Cond.selects xm_156.1.cls xm_156.1 xm_156.1 ∈ lw_tbl := ⟨xpos (i := 12303) (by decide +kernel), xpos (i := 12305) (by decide +kernel)⟩
theorem lw_lk_157 : Jvm.Cond.methodLink R_law 64 xm_157.1 ∈ lw_tbl ∧ Jvm.Cond.selects xm_157.1.cls xm_157.1 xm_157.1 ∈ lw_tbl := ⟨xpos (i := 17418) (by decide +kernel), xpos (i := 17420) (by decide +kernel)⟩
theorem lw_ok_158 : lw_Ok xm_158 1 := ⟨xwg_of (i := 12310) (by decide +kernel), xpos (i := 9217) (by decide +kernel), xpos (i := 12308) (by decide +kernel), by decide +kernel, by decide +kernel⟩
theorem lw_ok_159 : lw_Ok xm_159 1 := ⟨xwg_of (i := 17425) (by decide +kernel), xpos (i := 9230) (by decide +kernel), xpos (i := 17423) (by decide +kernel), by decide +kernel, by decide +kernel⟩
theorem xin_158 : xm_158 ∈ xMs := List.mem_of_getElem? (i := 158) rfl
theorem xin_159 : xm_159 ∈ xMs := List.mem_of_getElem? (i := 159) rfl
theorem lw_lk_158 : Jvm.Cond.methodLink R_law 65 xm_158.1 ∈ lw_tbl ∧ Jvm.Cond.selects xm_158.1.cls xm_158.1 xm_158.1 ∈ lw_tbl := ⟨xpos (i := 12307) (by decide +kernel), xpos (i := 12309) (by decide +kernel)⟩
theorem lw_lk_159 : Jvm.Cond.methodLink R_law 68 xm_159.1 ∈ lw_tbl ∧ Jvm.Cond.selects xm_159.1.cls xm_159.1 xm_159.1 ∈ lw_tbl := ⟨xpos (i := 17422) (by decide +kernel), xpos (i := 17424) (by decide +kernel)⟩
theorem lw_ok_160 : lw_Ok xm_160 1 := ⟨xwg_of (i := 12314) (by decide +kernel), xpos (i := 9217) (by decide +kernel), xpos (i := 12312) (by decide +kernel), by decide +kernel, by decide +kernel⟩
theorem lw_ok_161 : lw_Ok xm_161 1 := ⟨xwg_of (i := 17429) (by decide +kernel), xpos (i := 9230) (by decide +kernel), xpos (i := 17427) (by decide +kernel), by decide +kernel, by decide +kernel⟩
theorem xin_160 : xm_160 ∈ xMs := List.mem_of_getElem? (i := 160) rfl
theorem xin_161 : xm_161 ∈ xMs := List.mem_of_getElem? (i := 161) rfl
theorem lw_lk_160 : Jvm.Cond.methodLink R_law 69 xm_160.1 ∈ lw_tbl ∧ Jvm.Cond.selects xm_160.1.cls xm_160.1 xm_160.1 ∈ lw_tbl := ⟨xpos (i := 12311) (by decide +kernel), xpos (i := 12313) (by decide +kernel)⟩
theorem lw_lk_161 : Jvm.Cond.methodLink R_law 72 xm_161.1 ∈ lw_tbl ∧ Jvm.Cond.selects xm_161.1.cls xm_161.1 xm_161.1 ∈ lw_tbl := ⟨xpos (i := 17426) (by decide +kernel), xpos (i := 17428) (by decide +kernel)⟩
theorem lw_ok_162 : lw_Ok xm_162 1 := ⟨xwg_of (i := 12327) (by decide +kernel), xpos (i := 9217) (by decide +kernel), xpos (i := 12325) (by decide +kernel), by decide +kernel, by decide +kernel⟩
theorem lw_ok_163 : lw_Ok xm_163 1 := ⟨xwg_of (i := 17437) (by decide +kernel), xpos (i := 9230) (by decide +kernel), xpos (i := 17435) (by decide +kernel), by decide +kernel, by decide +kernel⟩
theorem xin_162 : xm_162 ∈ xMs := List.mem_of_getElem? (i := 162) rfl
theorem xin_163 : xm_163 ∈ xMs := List.mem_of_getElem? (i := 163) rfl
theorem lw_lk_162 : Jvm.Cond.methodLink R_law 73 xm_162.1 ∈ lw_tbl ∧ Jvm.Cond.selects xm_162.1.cls xm_162.1 xm_162.1 ∈ lw_tbl := ⟨xpos (i := 12324) (by decide +kernel), xpos (i := 12326) (by decide +kernel)⟩
theorem lw_lk_163 : Jvm.Cond.methodLink R_law 76 xm_163.1 ∈ lw_tbl ∧ Jvm.Cond.selects xm_163.1.cls xm_163.1 xm_163.1 ∈ lw_tbl := ⟨xpos (i := 17434) (by decide +kernel), xpos (i := 17436) (by decide +kernel)⟩
theorem lw_ok_164 : lw_Ok xm_164 3 := ⟨xwg_of (i := 12339) (by decide +kernel), xpos (i := 9217) (by decide +kernel), xpos (i := 12337) (by decide +kernel), by decide +kernel, by decide +kernel⟩
theorem lw_ok_165 : lw_Ok xm_165 3 := ⟨xwg_of (i := 17441) (by decide +kernel), xpos (i := 9230) (by decide +kernel), xpos (i := 17439) (by decide +kernel), by decide +kernel, by decide +kernel⟩
theorem xin_164 : xm_164 ∈ xMs := List.mem_of_getElem? (i := 164) rfl
theorem xin_165 : xm_165 ∈ xMs := List.mem_of_getElem? (i := 165) rfl
theorem lw_lk_164 : Jvm.Cond.methodLink R_law 77 xm_164.1 ∈ lw_tbl ∧ Jvm.Cond.selects xm_164.1.cls xm_164.1 xm_164.1 ∈ lw_tbl := ⟨xpos (i := 12336) (by decide +kernel), xpos (i := 12338) (by decide +kernel)⟩
theorem lw_lk_165 : Jvm.Cond.methodLink R_law 80 xm_165.1 ∈ lw_tbl ∧ Jvm.Cond.selects xm_165.1.cls xm_165.1 xm_165.1 ∈ lw_tbl := ⟨xpos (i := 17438) (by decide +kernel), xpos (i := 17440) (by decide +kernel)⟩
theorem lw_ok_166 : lw_Ok xm_166 2 := ⟨xwg_of (i := 12343) (by decide +kernel), xpos (i := 9217) (by decide +kernel), xpos (i := 12341) (by decide +kernel), by decide +kernel, by decide +kernel⟩
theorem lw_ok_167 : lw_Ok xm_167 2 := ⟨xwg_of (i := 17447) (by decide +kernel), xpos (i := 9230) (by decide +kernel), xpos (i := 17445) (by decide +kernel), by decide +kernel, by decide +kernel⟩
theorem xin_166 : xm_166 ∈ xMs := List.mem_of_getElem? (i := 166) rfl
theorem xin_167 : xm_167 ∈ xMs := List.mem_of_getElem? (i := 167) rfl
theorem lw_lk_166 : Jvm.Cond.methodLink R_law 81 xm_166.1 ∈ lw_tbl ∧ Jvm.Cond.selects xm_166.1.cls xm_166.1 xm_166.1 ∈ lw_tbl := ⟨xpos (i := 12340) (by decide +kernel), xpos (i := 12342) (by decide +kernel)⟩
theorem lw_lk_167 : Jvm.Cond.methodLink R_law 84 xm_167.1 ∈ lw_tbl ∧ Jvm.Cond.selects xm_167.1.cls xm_167.1 xm_167.1 ∈ lw_tbl := ⟨xpos (i := 17444) (by decide +kernel), xpos (i := 17446) (by decide +kernel)⟩
theorem lw_ok_168 : lw_Ok xm_168 1 := ⟨xwg_of (i := 12353) (by decide +kernel), xpos (i := 9217) (by decide +kernel), xpos (i := 12351) (by decide +kernel), by decide +kernel, by decide +kernel⟩
theorem lw_ok_169 : lw_Ok xm_169 1 := ⟨xwg_of (i := 17452) (by decide +kernel), xpos (i := 9230) (by decide +kernel), xpos (i := 17450) (by decide +kernel), by decide +kernel, by decide +kernel⟩
theorem xin_168 : xm_168 ∈ xMs := List.mem_of_getElem? (i := 168) rfl
theorem xin_169 : xm_169 ∈ xMs := List.mem_of_getElem? (i := 169) rfl
theorem lw_lk_168 : Jvm.Cond.methodLink R_law 85 xm_168.1 ∈ lw_tbl ∧ Jvm.Cond.selects xm_168.1.cls xm_168.1 xm_168.1 ∈ lw_tbl := ⟨xpos (i := 12350) (by decide +kernel), xpos (i := 12352) (by decide +kernel)⟩
theorem lw_lk_169 : Jvm.Cond.methodLink R_law 88 xm_169.1 ∈ lw_tbl ∧ Jvm.Cond.selects xm_169.1.cls xm_169.1 xm_169.1 ∈ lw_tbl := ⟨xpos (i := 17449) (by decide +kernel), xpos (i := 17451) (by decide +kernel)⟩
theorem lw_ok_170 : lw_Ok xm_170 1 := ⟨xwg_of (i := 12399) (by decide +kernel), xpos (i := 9217) (by decide +kernel), xpos (i := 12397) (by decide +kernel), by decide +kernel, by decide +kernel⟩
theorem lw_ok_171 : lw_Ok xm_171 1 := ⟨xwg_of (i := 17475) (by decide +kernel), xpos (i := 9230) (by decide +kernel), xpos (i := 17473) (by decide +kernel), by decide +kernel, by decide +kernel⟩
theorem xin_170 : xm_170 ∈ xMs := List.mem_of_getElem? (i := 170) rfl
theorem xin_171 : xm_171 ∈ xMs := List.mem_of_getElem? (i := 171) rfl
theorem lw_lk_170 : Jvm.Cond.methodLink R_law 89 xm_170.1 ∈ lw_tbl ∧ Jvm.Cond.selects xm_170.1.cls xm_170.1 xm_170.1 ∈ lw_tbl := ⟨xpos (i := 12396) (by decide +kernel), xpos (i := 12398) (by decide +kernel)⟩
theorem lw_lk_171 : Jvm.Cond.methodLink R_law 92 xm_171.1 ∈ lw_tbl ∧ Jvm.Cond.selects xm_171.1.cls xm_171.1 xm_171.1 ∈ lw_tbl := ⟨xpos (i := 17472) (by decide +kernel), xpos (i := 17474) (by decide +kernel)⟩
theorem lw_ok_172 : lw_Ok xm_172 3 := ⟨xwg_of (i := 12527) (by decide +kernel), xpos (i := 9217) (by decide +kernel), xpos (i := 12525) (by decide +kernel), by decide +kernel, by decide +kernel⟩
theorem lw_ok_173 : lw_Ok xm_173 3 := ⟨xwg_of (i := 17561) (by decide +kernel), xpos (i := 9230) (by decide +kernel), xpos (i := 17559) (by decide +kernel), by decide +kernel, by decide +kernel⟩
theorem xin_172 : xm_172 ∈ xMs := List.mem_of_getElem? (i := 172) rfl
theorem xin_173 : xm_173 ∈ xMs := List.mem_of_getElem? (i := 173) rfl
theorem lw_lk_172 : Jvm.Cond.methodLink R_law 93 xm_172.1 ∈ lw_tbl ∧ Jvm.Cond.selects xm_172.1.cls xm_172.1 xm_172.1 ∈ lw_tbl := ⟨xpos (i := 12524) (by decide +kernel), xpos (i := 12526) (by decide +kernel)⟩
theorem lw_lk_173 : Jvm.Cond.methodLink R_law 96 xm_173.1 ∈ lw_tbl ∧ Jvm.Cond.selects xm_173.1.cls xm_173.1 xm_173.1 ∈ lw_tbl := ⟨xpos (i := 17558) (by decide +kernel), xpos (i := 17560) (by decide +kernel)⟩
theorem lw_ok_174 : lw_Ok xm_174 3 := ⟨xwg_of (i := 13320) (by decide +kernel), xpos (i := 9217) (by decide +kernel), xpos (i := 13318) (by decide +kernel), by decide +kernel, by decide +kernel⟩
theorem lw_ok_175 : lw_Ok xm_175 3 := ⟨xwg_of (i := 17566) (by decide +kernel), xpos (i := 9230) (by decide +kernel), xpos (i := 17564) (by decide +kernel), by decide +kernel, by decide +kernel⟩
theorem xin_174 : xm_174 ∈ xMs := List.mem_of_getElem? (i := 174) rfl
theorem xin_175 : xm_175 ∈ xMs := List.mem_of_getElem? (i := 175) rfl
theorem lw_lk_174 : Jvm.Cond.methodLink R_law 97 xm_174.1 ∈ lw_tbl ∧ Jvm.Cond.selects xm_174.1.cls xm_174.1 xm_174.1 ∈ lw_tbl := ⟨xpos (i := 13317) (by decide +kernel), xpos (i := 13319) (by decide +kernel)⟩
theorem lw_lk_175 : Jvm.Cond.methodLink R_law 100 xm_175.1 ∈ lw_tbl ∧ Jvm.Cond.selects xm_175.1.cls xm_175.1 xm_175.1 ∈ lw_tbl := ⟨xpos (i := 17563) (by decide +kernel), xpos (i := 17565) (by decide +kernel)⟩
theorem lw_ok_176 : lw_Ok xm_176 2 := ⟨xwg_of (i := 13324) (by decide +kernel), xpos (i := 9217) (by decide +kernel), xpos (i := 13322) (by decide +kernel), by decide +kernel, by decide +kernel⟩
theorem lw_ok_177 : lw_Ok xm_177 2 := ⟨xwg_of (i := 17570) (by decide +kernel), xpos (i := 9230) (by decide +kernel), xpos (i := 17568) (by decide +kernel), by decide +kernel, by decide +kernel⟩
theorem xin_176 : xm_176 ∈ xMs := List.mem_of_getElem? (i := 176) rfl
theorem xin_177 : xm_177 ∈ xMs := List.mem_of_getElem? (i := 177) rfl
theorem lw_lk_176 : Jvm.Cond.methodLink R_law 101 xm_176.1 ∈ lw_tbl ∧ Jvm.Cond.selects xm_176.1.cls xm_176.1 xm_176.1 ∈ lw_tbl := ⟨xpos (i := 13321) (by decide +kernel), xpos (i := 13323) (by decide +kernel)⟩
theorem lw_lk_177 : Jvm.Cond.methodLink R_law 104 xm_177.1 ∈ lw_tbl ∧ Jvm.Cond.selects xm_177.1.cls xm_177.1 xm_177.1 ∈ lw_tbl := ⟨xpos (i := 17567) (by decide +kernel), xpos (i := 17569) (by decide +kernel)⟩
theorem lw_ok_178 : lw_Ok xm_178 1 := ⟨xwg_of (i := 13328) (by decide +kernel), xpos (i := 9217) (by decide +kernel), xpos (i := 13326) (by decide +kernel), by decide +kernel, by decide +kernel⟩
theorem lw_ok_179 : lw_Ok xm_179 1 := ⟨xwg_of (i := 17575) (by decide +kernel), xpos (i := 9230) (by decide +kernel), xpos (i := 17573) (by decide +kernel), by decide +kernel, by decide +kernel⟩
theorem xin_178 : xm_178 ∈ xMs := List.mem_of_getElem? (i := 178) rfl
theorem xin_179 : xm_179 ∈ xMs := List.mem_of_getElem? (i := 179) rfl
theorem lw_lk_178 : Jvm.Cond.methodLink R_law 105 xm_178.1 ∈ lw_tbl ∧ Jvm.Cond.selects xm_178.1.cls xm_178.1 xm_178.1 ∈ lw_tbl := ⟨xpos (i := 13325) (by decide +kernel), xpos (i := 13327) (by decide +kernel)⟩
theorem lw_lk_179 : Jvm.Cond.methodLink R_law 108 xm_179.1 ∈ lw_tbl ∧ Jvm.Cond.selects xm_179.1.cls xm_179.1 xm_179.1 ∈ lw_tbl := ⟨xpos (i := 17572) (by decide +kernel), xpos (i := 17574) (by decide +kernel)⟩
theorem lw_ok_180 : lw_Ok xm_180 3 := ⟨xwg_of (i := 13346) (by decide +kernel), xpos (i := 9217) (by decide +kernel), xpos (i := 13344) (by decide +kernel), by decide +kernel, by decide +kernel⟩
theorem lw_ok_181 : lw_Ok xm_181 3 := ⟨xwg_of (i := 17584) (by decide +kernel), xpos (i := 9230) (by decide +kernel), xpos (i := 17582) (by decide +kernel), by decide +kernel, by decide +kernel⟩
theorem xin_180 : xm_180 ∈ xMs := List.mem_of_getElem? (i := 180) rfl
theorem xin_181 : xm_181 ∈ xMs := List.mem_of_getElem? (i := 181) rfl
theorem lw_lk_180 : Jvm.Cond.methodLink R_law 109 xm_180.1 ∈ lw_tbl ∧ Jvm.Cond.selects xm_180.1.cls xm_180.1 xm_180.1 ∈ lw_tbl := ⟨xpos (i := 13343) (by decide +kernel), xpos (i := 13345) (by decide +kernel)⟩
theorem lw_lk_181 : Jvm.Cond.methodLink R_law 112 xm_181.1 ∈ lw_tbl ∧ Jvm.Cond.selects xm_181.1.cls xm_181.1 xm_181.1 ∈ lw_tbl := ⟨xpos (i := 17581) (by decide +kernel), xpos (i := 17583) (by decide +kernel)⟩
theorem lw_ok_182 : lw_Ok xm_182 1 := ⟨xwg_of (i := 13359) (by decide +kernel), xpos (i := 9217) (by decide +kernel), xpos (i := 13357) (by decide +kernel), by decide +kernel, by decide +kernel⟩
theorem lw_ok_183 : lw_Ok xm_183 1 := ⟨xwg_of (i := 17588) (by decide +kernel), xpos (i := 9230) (by decide +kernel), xpos (i := 17586) (by decide +kernel), by decide +kernel, by decide +kernel⟩
theorem xin_182 : xm_182 ∈ xMs := List.mem_of_getElem? (i := 182) rfl
theorem xin_183 : xm_183 ∈ xMs := List.mem_of_getElem? (i := 183) rfl
theorem lw_lk_182 : Jvm.Cond.methodLink R_law 113 xm_182.1 ∈ lw_tbl ∧ Jvm.Cond.selects xm_182.1.cls xm_182.1 xm_182.1 ∈ lw_tbl := ⟨xpos (i := 13356) (by decide +kernel), xpos (i := 13358) (by decide +kernel)⟩
theorem lw_lk_183 : Jvm.Cond.methodLink R_law 116 xm_183.1 ∈ lw_tbl ∧ Jvm.Cond.selects xm_183.1.cls xm_183.1 xm_183.1 ∈ lw_tbl := ⟨xpos (i := 17585) (by decide +kernel), xpos (i := 17587) (by decide +kernel)⟩
theorem lw_ok_254 : lw_Ok xm_254 0 := ⟨xwg_of (i := 13363) (by decide +kernel), xpos (i := 9217) (by decide +kernel), xpos (i := 13361) (by decide +kernel), by decide +kernel, by decide +kernel⟩
theorem lw_ok_255 : lw_Ok xm_255 0 := ⟨xwg_of (i := 17592) (by decide +kernel), xpos (i := 9230) (by decide +kernel), xpos (i := 17590) (by decide +kernel), by decide +kernel, by decide +kernel⟩
theorem xin_254 : xm_254 ∈ xMs := List.mem_of_getElem? (i := 254) rfl
theorem xin_255 : xm_255 ∈ xMs := List.mem_of_getElem? (i := 255) rfl
theorem lw_lk_254 : Jvm.Cond.methodLink R_law 117 xm_254.1 ∈ lw_tbl ∧ Jvm.Cond.selects xm_254.1.cls xm_254.1 xm_254.1 ∈ lw_tbl := ⟨xpos (i := 13360) (by decide +kernel), xpos (i := 13362) (by decide +kernel)⟩
theorem lw_lk_255 : Jvm.Cond.methodLink R_law 121 xm_255.1 ∈ lw_tbl ∧ Jvm.Cond.selects xm_255.1.cls xm_255.1 xm_255.1 ∈ lw_tbl := ⟨xpos (i := 17589) (by decide +kernel), xpos (i := 17591) (by decide +kernel)⟩
theorem lw_ok_184 : lw_Ok xm_184 2 := ⟨xwg_of (i := 14344) (by decide +kernel), xpos (i := 9217) (by decide +kernel), xpos (i := 14342) (by decide +kernel), by decide +kernel, by decide +kernel⟩
theorem lw_ok_185 : lw_Ok xm_185 2 := ⟨xwg_of (i := 18443) (by decide +kernel), xpos (i := 9230) (by decide +kernel), xpos (i := 18441) (by decide +kernel), by decide +kernel, by decide +kernel⟩
theorem xin_184 : xm_184 ∈ xMs := List.mem_of_getElem? (i := 184) rfl
theorem xin_185 : xm_185 ∈ xMs := List.mem_of_getElem? (i := 185) rfl
theorem lw_lk_184 : Jvm.Cond.methodLink R_law 122 xm_184.1 ∈ lw_tbl ∧ Jvm.Cond.selects xm_184.1.cls xm_184.1 xm_184.1 ∈ lw_tbl := ⟨xpos (i := 14341) (by decide +kernel), xpos (i := 14343) (by decide +kernel)⟩
theorem lw_lk_185 : Jvm.Cond.methodLink R_law 125 xm_185.1 ∈ lw_tbl ∧ Jvm.Cond.selects xm_185.1.cls xm_185.1 xm_185.1 ∈ lw_tbl := ⟨xpos (i := 18440) (by decide +kernel), xpos (i := 18442) (by decide +kernel)⟩
theorem lw_ok_186 : lw_Ok xm_186 1 := ⟨xwg_of (i := 14353) (by decide +kernel), xpos (i := 9217) (by decide +kernel), xpos (i := 14351) (by decide +kernel), by decide +kernel, by decide +kernel⟩
theorem lw_ok_187 : lw_Ok xm_187 1 := ⟨xwg_of (i := 18451) (by decide +kernel), xpos (i := 9230) (by decide +kernel), xpos (i := 18449) (by decide +kernel), by decide +kernel, by decide +kernel⟩
theorem xin_186 : xm_186 ∈ xMs := List.mem_of_getElem? (i := 186) rfl
theorem xin_187 : xm_187 ∈ xMs := List.mem_of_getElem? (i := 187) rfl
theorem lw_lk_186 : Jvm.Cond.methodLink R_law 126 xm_186.1 ∈ lw_tbl ∧ Jvm.Cond.selects xm_186.1.cls xm_186.1 xm_186.1 ∈ lw_tbl := ⟨xpos (i := 14350) (by decide +kernel), xpos (i := 14352) (by decide +kernel)⟩
theorem lw_lk_187 : Jvm.Cond.methodLink R_law 129 xm_187.1 ∈ lw_tbl ∧ Jvm.Cond.selects xm_187.1.cls xm_187.1 xm_187.1 ∈ lw_tbl := ⟨xpos (i := 18448) (by decide +kernel), xpos (i := 18450) (by decide +kernel)⟩
theorem lw_ok_188 : lw_Ok xm_188 2 := ⟨xwg_of (i := 14362) (by decide +kernel), xpos (i := 9217) (by decide +kernel), xpos (i := 14360) (by decide +kernel), by decide +kernel, by decide +kernel⟩
theorem lw_ok_189 : lw_Ok xm_189 2 := ⟨xwg_of (i := 18455) (by decide +kernel), xpos (i := 9230) (by decide +kernel), xpos (i := 18453) (by decide +kernel), by decide +kernel, by decide +kernel⟩
theorem xin_188 : xm_188 ∈ xMs := List.mem_of_getElem? (i := 188) rfl
theorem xin_189 : xm_189 ∈ xMs := List.mem_of_getElem? (i := 189) rfl
theorem lw_lk_188 : Jvm.Cond.methodLink R_law 130 xm_188.1 ∈ lw_tbl ∧ Jvm.Cond.selects xm_188.1.cls xm_188.1 xm_188.1 ∈ lw_tbl := ⟨xpos (i := 14359) (by decide +kernel), xpos (i := 14361) (by decide +kernel)⟩
theorem lw_lk_189 : Jvm.Cond.methodLink R_law 133 xm_189.1 ∈ lw_tbl ∧ Jvm.Cond.selects xm_189.1.cls xm_189.1 xm_189.1 ∈ lw_tbl := ⟨xpos (i := 18452) (by decide +kernel), xpos (i := 18454) (by decide +kernel)⟩
theorem lw_ok_190 : lw_Ok xm_190 0 := ⟨xwg_of (i := 14374) (by decide +kernel), xpos (i := 9217) (by decide +kernel), xpos (i := 14372) (by decide +kernel), by decide +kernel, by decide +kernel⟩
theorem lw_ok_191 : lw_Ok xm_191 0 := ⟨xwg_of (i := 18463) (by decide +kernel), xpos (i := 9230) (by decide +kernel), xpos (i := 18461) (by decide +kernel), by decide +kernel, by decide +kernel⟩
theorem xin_190 : xm_190 ∈ xMs := List.mem_of_getElem? (i := 190) rfl
theorem xin_191 : xm_191 ∈ xMs := List.mem_of_getElem? (i := 191) rfl
theorem lw_lk_190 : Jvm.Cond.methodLink R_law 134 xm_190.1 ∈ lw_tbl ∧ Jvm.Cond.selects xm_190.1.cls xm_190.1 xm_190.1 ∈ lw_tbl := ⟨xpos (i := 14371) (by decide +kernel), xpos (i := 14373) (by decide +kernel)⟩
theorem lw_lk_191 : Jvm.Cond.methodLink R_law 137 xm_191.1 ∈ lw_tbl ∧ Jvm.Cond.selects xm_191.1.cls xm_191.1 xm_191.1 ∈ lw_tbl := ⟨xpos (i := 18460) (by decide +kernel), xpos (i := 18462) (by decide +kernel)⟩
theorem lw_ok_192 : lw_Ok xm_192 3 := ⟨xwg_of (i := 14395) (by decide +kernel), xpos (i := 9217) (by decide +kernel), xpos (i := 14393) (by decide +kernel), by decide +kernel, by decide +kernel⟩
theorem lw_ok_193 : lw_Ok xm_193 3 := ⟨xwg_of (i := 18467) (by decide +kernel), xpos (i := 9230) (by decide +kernel), xpos (i := 18465) (by decide +kernel), by decide +kernel, by decide +kernel⟩
theorem xin_192 : xm_192 ∈ xMs := List.mem_of_getElem? (i := 192) rfl
theorem xin_193 : xm_193 ∈ xMs := List.mem_of_getElem? (i := 193) rfl
theorem lw_lk_192 : Jvm.Cond.methodLink R_law 138 xm_192.1 ∈ lw_tbl ∧ Jvm.Cond.selects xm_192.1.cls xm_192.1 xm_192.1 ∈ lw_tbl := ⟨xpos (i := 14392) (by decide +kernel), xpos (i := 14394) (by decide +kernel)⟩
theorem lw_lk_193 : Jvm.Cond.methodLink R_law 141 xm_193.1 ∈ lw_tbl ∧ Jvm.Cond.selects xm_193.1.cls xm_193.1 xm_193.1 ∈ lw_tbl := ⟨xpos (i := 18464) (by decide +kernel), xpos (i := 18466) (by decide +kernel)⟩
theorem lw_ok_194 : lw_Ok xm_194 1 := ⟨xwg_of (i := 14399) (by decide +kernel), xpos (i := 9217) (by decide +kernel), xpos (i := 14397) (by decide +kernel), by decide +kernel, by decide +kernel⟩
theorem lw_ok_195 : lw_Ok xm_195 1 := ⟨xwg_of (i := 18471) (by decide +kernel), xpos (i := 9230) (by decide +kernel), xpos (i := 18469) (by decide +kernel), by decide +kernel, by decide +kernel⟩
theorem xin_194 : xm_194 ∈ xMs := List.mem_of_getElem? (i := 194) rfl
theorem xin_195 : xm_195 ∈ xMs := List.mem_of_getElem? (i := 195) rfl
theorem lw_lk_194 : Jvm.Cond.methodLink R_law 142 xm_194.1 ∈ lw_tbl ∧ Jvm.Cond.selects xm_194.1.cls xm_194.1 xm_194.1 ∈ lw_tbl := ⟨xpos (i := 14396) (by decide +kernel), xpos (i := 14398) (by decide +kernel)⟩
theorem lw_lk_195 : Jvm.Cond.methodLink R_law 145 xm_195.1 ∈ lw_tbl ∧ Jvm.Cond.selects xm_195.1.cls xm_195.1 xm_195.1 ∈ lw_tbl := ⟨xpos (i := 18468) (by decide +kernel), xpos (i := 18470) (by decide +kernel)⟩
theorem lw_ok_196 : lw_Ok xm_196 2 := ⟨xwg_of (i := 14404) (by decide +kernel), xpos (i := 9217) (by decide +kernel), xpos (i := 14402) (by decide +kernel), by decide +kernel, by decide +kernel⟩
theorem lw_ok_197 : lw_Ok xm_197 2 := ⟨xwg_of (i := 18475) (by decide +kernel), xpos (i := 9230) (by decide +kernel), xpos (i := 18473) (by decide +kernel), by decide +kernel, by decide +kernel⟩
theorem xin_196 : xm_196 ∈ xMs := List.mem_of_getElem? (i := 196) rfl
theorem xin_197 : xm_197 ∈ xMs := List.mem_of_getElem? (i := 197) rfl
theorem lw_lk_196 : Jvm.Cond.methodLink R_law 146 xm_196.1 ∈ lw_tbl ∧ Jvm.Cond.selects xm_196.1.cls xm_196.1 xm_196.1 ∈ lw_tbl := ⟨xpos (i := 14401) (by decide +kernel), xpos (i := 14403) (by decide +kernel)⟩
theorem lw_lk_197 : Jvm.Cond.methodLink R_law 149 xm_197.1 ∈ lw_tbl ∧ Jvm.Cond.selects xm_197.1.cls xm_197.1 xm_197.1 ∈ lw_tbl := ⟨xpos (i := 18472) (by decide +kernel), xpos (i := 18474) (by decide +kernel)⟩
theorem lw_ok_198 : lw_Ok xm_198 1 := ⟨xwg_of (i := 14418) (by decide +kernel), xpos (i := 9217) (by decide +kernel), xpos (i := 14416) (by decide +kernel), by decide +kernel, by decide +kernel⟩
theorem lw_ok_199 : lw_Ok xm_199 1 := ⟨xwg_of (i := 18479) (by decide +kernel), xpos (i := 9230) (by decide +kernel), xpos (i := 18477) (by decide +kernel), by decide +kernel, by decide +kernel⟩
theorem xin_198 : xm_198 ∈ xMs := List.mem_of_getElem? (i := 198) rfl
theorem xin_199 : xm_199 ∈ xMs := List.mem_of_getElem? (i := 199) rfl
theorem lw_lk_198 : Jvm.Cond.methodLink R_law 150 xm_198.1 ∈ lw_tbl ∧ Jvm.Cond.selects xm_198.1.cls xm_198.1 xm_198.1 ∈ lw_tbl := ⟨xpos (i := 14415) (by decide +kernel), xpos (i := 14417) (by decide +kernel)⟩
theorem lw_lk_199 : Jvm.Cond.methodLink R_law 153 xm_199.1 ∈ lw_tbl ∧ Jvm.Cond.selects xm_199.1.cls xm_199.1 xm_199.1 ∈ lw_tbl := ⟨xpos (i := 18476) (by decide +kernel), xpos (i := 18478) (by decide +kernel)⟩
theorem lw_ok_200 : lw_Ok xm_200 0 := ⟨xwg_of (i := 14440) (by decide +kernel), xpos (i := 9217) (by decide +kernel), xpos (i := 14438) (by decide +kernel), by decide +kernel, by decide +kernel⟩
theorem lw_ok_201 : lw_Ok xm_201 0 := ⟨xwg_of (i := 18491) (by decide +kernel), xpos (i := 9230) (by decide +kernel), xpos (i := 18489) (by decide +kernel), by decide +kernel, by decide +kernel⟩
theorem xin_200 : xm_200 ∈ xMs := List.mem_of_getElem? (i := 200) rfl
theorem xin_201 : xm_201 ∈ xMs := List.mem_of_getElem? (i := 201) rfl
theorem lw_lk_200 : Jvm.Cond.methodLink R_law 154 xm_200.1 ∈ lw_tbl ∧ Jvm.Cond.selects xm_200.1.cls xm_200.1 xm_200.1 ∈ lw_tbl := ⟨xpos (i := 14437) (by decide +kernel), xpos (i := 14439) (by decide +kernel)⟩
theorem lw_lk_201 : Jvm.Cond.methodLink R_law 157 xm_201.1 ∈ lw_tbl ∧ Jvm.Cond.selects xm_201.1.cls xm_201.1 xm_201.1 ∈ lw_tbl := ⟨xpos (i := 18488) (by decide +kernel), xpos (i := 18490) (by decide +kernel)⟩
theorem lw_ok_202 : lw_Ok xm_202 0 := ⟨xwg_of (i := 14448) (by decide +kernel), xpos (i := 9217) (by decide +kernel), xpos (i := 14446) (by decide +kernel), by decide +kernel, by decide +kernel⟩
theorem lw_ok_203 : lw_Ok xm_203 0 := ⟨xwg_of (i := 18495) (by decide +kernel), xpos (i := 9230) (by decide +kernel), xpos (i := 18493) (by decide +kernel), by decide +kernel, by decide +kernel⟩
theorem xin_202 : xm_202 ∈ xMs := List.mem_of_getElem? (i := 202) rfl
theorem xin_203 : xm_203 ∈ xMs := List.mem_of_getElem? (i := 203) rfl
theorem lw_lk_202 : Jvm.Cond.methodLink R_law 158 xm_202.1 ∈ lw_tbl ∧ Jvm.Cond.selects xm_202.1.cls xm_202.1 xm_202.1 ∈ lw_tbl := ⟨xpos (i := 14445) (by decide +kernel), xpos (i := 14447) (by decide +kernel)⟩
theorem lw_lk_203 : Jvm.Cond.methodLink R_law 161 xm_203.1 ∈ lw_tbl ∧ Jvm.Cond.selects xm_203.1.cls xm_203.1 xm_203.1 ∈ lw_tbl := ⟨xpos (i := 18492) (by decide +kernel), xpos (i := 18494) (by decide +kernel)⟩
theorem lw_ok_204 : lw_Ok xm_204 3 := ⟨xwg_of (i := 14454) (by decide +kernel), xpos (i := 9217) (by decide +kernel), xpos (i := 14452) (by decide +kernel), by decide +kernel, by decide +kernel⟩
theorem lw_ok_205 : lw_Ok xm_205 3 := ⟨xwg_of (i := 18499) (by decide +kernel), xpos (i := 9230) (by decide +kernel), xpos (i := 18497) (by decide +kernel), by decide +kernel, by decide +kernel⟩
theorem xin_204 : xm_204 ∈ xMs := List.mem_of_getElem? (i := 204) rfl
theorem xin_205 : xm_205 ∈ xMs := List.mem_of_getElem? (i := 205) rfl
theorem lw_lk_204 : Jvm.Cond.methodLink R_law 162 xm_204.1 ∈ lw_tbl ∧ Jvm.Cond.selects xm_204.1.cls xm_204.1 xm_204.1 ∈ lw_tbl := ⟨xpos (i := 14451) (by decide +kernel), xpos (i := 14453) (by decide +kernel)⟩
theorem lw_lk_205 : Jvm.Cond.methodLink R_law 165 xm_205.1 ∈ lw_tbl ∧ Jvm.Cond.selects xm_205.1.cls xm_205.1 xm_205.1 ∈ lw_tbl := ⟨xpos (i := 18496) (by decide +kernel), xpos (i := 18498) (by decide +kernel)⟩
theorem lw_ok_206 : lw_Ok xm_206 3 := ⟨xwg_of (i := 14464) (by decide +kernel), xpos (i := 9217) (by decide +kernel), xpos (i := 14462) (by decide +kernel), by decide +kernel, by decide +kernel⟩
theorem lw_ok_207 : lw_Ok xm_207 3 := ⟨xwg_of (i := 18505) (by decide +kernel), xpos (i := 9230) (by decide +kernel), xpos (i := 18503) (by decide +kernel), by decide +kernel, by decide +kernel⟩
theorem xin_206 : xm_206 ∈ xMs := List.mem_of_getElem? (i := 206) rfl
theorem xin_207 : xm_207 ∈ xMs := List.mem_of_getElem? (i := 207) rfl
theorem lw_lk_206 : Jvm.Cond.methodLink R_law 166 xm_206.1 ∈ lw_tbl ∧ Jvm.Cond.selects xm_206.1.cls xm_206.1 xm_206.1 ∈ lw_tbl := ⟨xpos (i := 14461) (by decide +kernel), xpos (i := 14463) (by decide +kernel)⟩
theorem lw_lk_207 : Jvm.Cond.methodLink R_law 169 xm_207.1 ∈ lw_tbl ∧ Jvm.Cond.selects xm_207.1.cls xm_207.1 xm_207.1 ∈ lw_tbl := ⟨xpos (i := 18502) (by decide +kernel), xpos (i := 18504) (by decide +kernel)⟩
theorem lw_ok_208 : lw_Ok xm_208 2 := ⟨xwg_of (i := 14484) (by decide +kernel), xpos (i := 9217) (by decide +kernel), xpos (i := 14482) (by decide +kernel), by decide +kernel, by decide +kernel⟩
theorem lw_ok_209 : lw_Ok xm_209 2 := ⟨xwg_of (i := 18513) (by decide +kernel), xpos (i := 9230) (by decide +kernel), xpos (i := 18511) (by decide +kernel), by decide +kernel, by decide +kernel⟩
theorem xin_208 : xm_208 ∈ xMs := List.mem_of_getElem? (i := 208) rfl
theorem xin_209 : xm_209 ∈ xMs := List.mem_of_getElem? (i := 209) rfl
theorem lw_lk_208 : Jvm.Cond.methodLink R_law 170 xm_208.1 ∈ lw_tbl ∧ Jvm.Cond.selects xm_208.1.cls xm_208.1 xm_208.1 ∈ lw_tbl := ⟨xpos (i := 14481) (by decide +kernel), xpos (i := 14483) (by decide +kernel)⟩
theorem lw_lk_209 : Jvm.Cond.methodLink R_law 173 xm_209.1 ∈ lw_tbl ∧ Jvm.Cond.selects xm_209.1.cls xm_209.1 xm_209.1 ∈ lw_tbl := ⟨xpos (i := 18510) (by decide +kernel), xpos (i := 18512) (by decide +kernel)⟩
theorem lw_ok_210 : lw_Ok xm_210 2 := ⟨xwg_of (i := 14496) (by decide +kernel), xpos (i := 9217) (by decide +kernel), xpos (i := 14494) (by decide +kernel), by decide +kernel, by decide +kernel⟩
theorem lw_ok_211 : lw_Ok xm_211 2 := ⟨xwg_of (i := 18525) (by decide +kernel), xpos (i := 9230) (by decide +kernel), xpos (i := 18523) (by decide +kernel), by decide +kernel, by decide +kernel⟩
theorem xin_210 : xm_210 ∈ xMs := List.mem_of_getElem? (i := 210) rfl
theorem xin_211 : xm_211 ∈ xMs := List.mem_of_getElem? (i := 211) rfl
theorem lw_lk_210 : Jvm.Cond.methodLink R_law 174 xm_210.1 ∈ lw_tbl ∧ Jvm.Cond.selects xm_210.1.cls xm_210.1 xm_210.1 ∈ lw_tbl := ⟨xpos (i := 14493) (by decide +kernel), xpos (i := 14495) (by decide +kernel)⟩
theorem lw_lk_211 : Jvm.Cond.methodLink R_law 177 xm_211.1 ∈ lw_tbl ∧ Jvm.Cond.selects xm_211.1.cls xm_211.1 xm_211.1 ∈ lw_tbl := ⟨xpos (i := 18522) (by decide +kernel), xpos (i := 18524) (by decide +kernel)⟩
theorem lw_ok_212 : lw_Ok xm_212 5 := ⟨xwg_of (i := 14503) (by decide +kernel), xpos (i := 9217) (by decide +kernel), xpos (i := 14501) (by decide +kernel), by decide +kernel, by decide +kernel⟩
theorem lw_ok_213 : lw_Ok xm_213 5 := ⟨xwg_of (i := 18530) (by decide +kernel), xpos (i := 9230) (by decide +kernel), xpos (i := 18528) (by decide +kernel), by decide +kernel, by decide +kernel⟩
theorem xin_212 : xm_212 ∈ xMs := List.mem_of_getElem? (i := 212) rfl
theorem xin_213 : xm_213 ∈ xMs := List.mem_of_getElem? (i := 213) rfl
theorem lw_lk_212 : Jvm.Cond.methodLink R_law 178 xm_212.1 ∈ lw_tbl ∧ Jvm.Cond.selects xm_212.1.cls xm_212.1 xm_212.1 ∈ lw_tbl := ⟨xpos (i := 14500) (by decide +kernel), xpos (i := 14502) (by decide +kernel)⟩
theorem lw_lk_213 : Jvm.Cond.methodLink R_law 181 xm_213.1 ∈ lw_tbl ∧ Jvm.Cond.selects xm_213.1.cls xm_213.1 xm_213.1 ∈ lw_tbl := ⟨xpos (i := 18527) (by decide +kernel), xpos (i := 18529) (by decide +kernel)⟩
theorem lw_ok_214 : lw_Ok xm_214 3 := ⟨xwg_of (i := 14516) (by decide +kernel), xpos (i := 9217) (by decide +kernel), xpos (i := 14514) (by decide +kernel), by decide +kernel, by decide +kernel⟩
theorem lw_ok_215 : lw_Ok xm_215 3 := ⟨xwg_of (i := 18534) (by decide +kernel), xpos (i := 9230) (by decide +kernel), xpos (i := 18532) (by decide +kernel), by decide +kernel, by decide +kernel⟩
theorem xin_214 : xm_214 ∈ xMs := List.mem_of_getElem? (i := 214) rfl
theorem xin_215 : xm_215 ∈ xMs := List.mem_of_getElem? (i := 215) rfl
theorem lw_lk_214 : Jvm.Cond.methodLink R_law 182 xm_214.1 ∈ lw_tbl ∧ Jvm.Cond.selects xm_214.1.cls xm_214.1 xm_214.1 ∈ lw_tbl := ⟨xpos (i := 14513) (by decide +kernel), xpos (i := 14515) (by decide +kernel)⟩
theorem lw_lk_215 : Jvm.Cond.methodLink R_law 185 xm_215.1 ∈ lw_tbl ∧ Jvm.Cond.selects xm_215.1.cls xm_215.1 xm_215.1 ∈ lw_tbl := ⟨xpos (i := 18531) (by decide +kernel), xpos (i := 18533) (by decide +kernel)⟩
theorem lw_ok_216 : lw_Ok xm_216 2 := ⟨xwg_of (i := 14520) (by decide +kernel), xpos (i := 9217) (by decide +kernel), xpos (i := 14518) (by decide +kernel), by decide +kernel, by decide +kernel⟩
theorem lw_ok_217 : lw_Ok xm_217 2 := ⟨xwg_of (i := 18546) (by decide +kernel), xpos (i := 9230) (by decide +kernel), xpos (i := 18544) (by decide +kernel), by decide +kernel, by decide +kernel⟩
theorem xin_216 : xm_216 ∈ xMs := List.mem_of_getElem? (i := 216) rfl
theorem xin_217 : xm_217 ∈ xMs := List.mem_of_getElem? (i := 217) rfl
theorem lw_lk_216 : Jvm.Cond.methodLink R_law 186 xm_216.1 ∈ lw_tbl ∧ Jvm.Cond.selects xm_216.1.cls xm_216.1 xm_216.1 ∈ lw_tbl := ⟨xpos (i := 14517) (by decide +kernel), xpos (i := 14519) (by decide +kernel)⟩
theorem lw_lk_217 : Jvm.Cond.methodLink R_law 189 xm_217.1 ∈ lw_tbl ∧ Jvm.Cond.selects xm_217.1.cls xm_217.1 xm_217.1 ∈ lw_tbl := ⟨xpos (i := 18543) (by decide +kernel), xpos (i := 18545) (by decide +kernel)⟩
theorem lw_ok_218 : lw_Ok xm_218 1 := ⟨xwg_of (i := 14538) (by decide +kernel), xpos (i := 9217) (by decide +kernel), xpos (i := 14536) (by decide +kernel), by decide +kernel, by decide +kernel⟩
theorem lw_ok_219 : lw_Ok xm_219 1 := ⟨xwg_of (i := 18557) (by decide +kernel), xpos (i := 9230) (by decide +kernel), xpos (i := 18555) (by decide +kernel), by decide +kernel, by decide +kernel⟩
theorem xin_218 : xm_218 ∈ xMs := List.mem_of_getElem? (i := 218) rfl
theorem xin_219 : xm_219 ∈ xMs := List.mem_of_getElem? (i := 219) rfl
theorem lw_lk_218 : Jvm.Cond.methodLink R_law 190 xm_218.1 ∈ lw_tbl ∧ Jvm.Cond.selects xm_218.1.cls xm_218.1 xm_218.1 ∈ lw_tbl := ⟨xpos (i := 14535) (by decide +kernel), xpos (i := 14537) (by decide +kernel)⟩
theorem lw_lk_219 : Jvm.Cond.methodLink R_law 193 xm_219.1 ∈ lw_tbl ∧ Jvm.Cond.selects xm_219.1.cls xm_219.1 xm_219.1 ∈ lw_tbl := ⟨xpos (i := 18554) (by decide +kernel), xpos (i := 18556) (by decide +kernel)⟩
theorem lw_ok_220 : lw_Ok xm_220 2 := ⟨xwg_of (i := 14554) (by decide +kernel), xpos (i := 9217) (by decide +kernel), xpos (i := 14552) (by decide +kernel), by decide +kernel, by decide +kernel⟩
theorem lw_ok_221 : lw_Ok xm_221 2 := ⟨xwg_of (i := 18565) (by decide +kernel), xpos (i := 9230) (by decide +kernel), xpos (i := 18563) (by decide +kernel), by decide +kernel, by decide +kernel⟩
theorem xin_220 : xm_220 ∈ xMs := List.mem_of_getElem? (i := 220) rfl
theorem xin_221 : xm_221 ∈ xMs := List.mem_of_getElem? (i := 221) rfl
theorem lw_lk_220 : Jvm.Cond.methodLink R_law 194 xm_220.1 ∈ lw_tbl ∧ Jvm.Cond.selects xm_220.1.cls xm_220.1 xm_220.1 ∈ lw_tbl := ⟨xpos (i := 14551) (by decide +kernel), xpos (i := 14553) (by decide +kernel)⟩
theorem lw_lk_221 : Jvm.Cond.methodLink R_law 197 xm_221.1 ∈ lw_tbl ∧ Jvm.Cond.selects xm_221.1.cls xm_221.1 xm_221.1 ∈ lw_tbl := ⟨xpos (i := 18562) (by decide +kernel), xpos (i := 18564) (by decide +kernel)⟩
theorem lw_ok_222 : lw_Ok xm_222 2 := ⟨xwg_of (i := 14558) (by decide +kernel), xpos (i := 9217) (by decide +kernel), xpos (i := 14556) (by decide +kernel), by decide +kernel, by decide +kernel⟩
theorem lw_ok_223 : lw_Ok xm_223 2 := ⟨xwg_of (i := 18570) (by decide +kernel), xpos (i := 9230) (by decide +kernel), xpos (i := 18568) (by decide +kernel), by decide +kernel, by decide +kernel⟩
theorem xin_222 : xm_222 ∈ xMs := List.mem_of_getElem? (i := 222) rfl
theorem xin_223 : xm_223 ∈ xMs := List.mem_of_getElem? (i := 223) rfl
theorem lw_lk_222 : Jvm.Cond.methodLink R_law 198 xm_222.1 ∈ lw_tbl ∧ Jvm.Cond.selects xm_222.1.cls xm_222.1 xm_222.1 ∈ lw_tbl := ⟨xpos (i := 14555) (by decide +kernel), xpos (i := 14557) (by decide +kernel)⟩
theorem lw_lk_223 : Jvm.Cond.methodLink R_law 201 xm_223.1 ∈ lw_tbl ∧ Jvm.Cond.selects xm_223.1.cls xm_223.1 xm_223.1 ∈ lw_tbl := ⟨xpos (i := 18567) (by decide +kernel), xpos (i := 18569) (by decide +kernel)⟩
theorem lw_ok_224 : lw_Ok xm_224 4 := ⟨xwg_of (i := 15377) (by decide +kernel), xpos (i := 9217) (by decide +kernel), xpos (i := 15375) (by decide +kernel), by decide +kernel, by decide +kernel⟩
theorem lw_ok_225 : lw_Ok xm_225 4 := ⟨xwg_of (i := 18598) (by decide +kernel), xpos (i := 9230) (by decide +kernel), xpos (i := 18596) (by decide +kernel), by decide +kernel, by decide +kernel⟩
theorem xin_224 : xm_224 ∈ xMs := List.mem_of_getElem? (i := 224) rfl
theorem xin_225 : xm_225 ∈ xMs := List.mem_of_getElem? (i := 225) rfl
theorem lw_lk_224 : Jvm.Cond.methodLink R_law 202 xm_224.1 ∈ lw_tbl ∧ Jvm.Cond.selects xm_224.1.cls xm_224.1 xm_224.1 ∈ lw_tbl := ⟨xpos (i := 15374) (by decide +kernel), xpos (i := 15376) (by decide +kernel)⟩
theorem lw_lk_225 : Jvm.Cond.methodLink R_law 206 xm_225.1 ∈ lw_tbl ∧ Jvm.Cond.selects xm_225.1.cls xm_225.1 xm_225.1 ∈ lw_tbl := ⟨xpos (i := 18595) (by decide +kernel), xpos (i := 18597) (by decide +kernel)⟩
theorem lw_ok_226 : lw_Ok xm_226 2 := ⟨xwg_of (i := 15381) (by decide +kernel), xpos (i := 9217) (by decide +kernel), xpos (i := 15379) (by decide +kernel), by decide +kernel, by decide +kernel⟩
theorem lw_ok_227 : lw_Ok xm_227 2 := ⟨xwg_of (i := 18602) (by decide +kernel), xpos (i := 9230) (by decide +kernel), xpos (i := 18600) (by decide +kernel), by decide +kernel, by decide +kernel⟩
theorem xin_226 : xm_226 ∈ xMs := List.mem_of_getElem? (i := 226) rfl
theorem xin_227 : xm_227 ∈ xMs := List.mem_of_getElem? (i := 227) rfl
theorem lw_lk_226 : Jvm.Cond.methodLink R_law 207 xm_226.1 ∈ lw_tbl ∧ Jvm.Cond.selects xm_226.1.cls xm_226.1 xm_226.1 ∈ lw_tbl := ⟨xpos (i := 15378) (by decide +kernel), xpos (i := 15380) (by decide +kernel)⟩
theorem lw_lk_227 : Jvm.Cond.methodLink R_law 210 xm_227.1 ∈ lw_tbl ∧ Jvm.Cond.selects xm_227.1.cls xm_227.1 xm_227.1 ∈ lw_tbl := ⟨xpos (i := 18599) (by decide +kernel), xpos (i := 18601) (by decide +kernel)⟩
theorem lw_ok_228 : lw_Ok xm_228 3 := ⟨xwg_of (i := 15385) (by decide +kernel), xpos (i := 9217) (by decide +kernel), xpos (i := 15383) (by decide +kernel), by decide +kernel, by decide +kernel⟩
theorem lw_ok_229 : lw_Ok xm_229 3 := ⟨xwg_of (i := 18606) (by decide +kernel), xpos (i := 9230) (by decide +kernel), xpos (i := 18604) (by decide +kernel), by decide +kernel, by decide +kernel⟩
theorem xin_228 : xm_228 ∈ xMs := List.mem_of_getElem? (i := 228) rfl
theorem xin_229 : xm_229 ∈ xMs := List.mem_of_getElem? (i := 229) rfl
theorem lw_lk_228 : Jvm.Cond.methodLink R_law 211 xm_228.1 ∈ lw_tbl ∧ Jvm.Cond.selects xm_228.1.cls xm_228.1 xm_228.1 ∈ lw_tbl := ⟨xpos (i := 15382) (by decide +kernel), xpos (i := 15384) (by decide +kernel)⟩
theorem lw_lk_229 : Jvm.Cond.methodLink R_law 214 xm_229.1 ∈ lw_tbl ∧ Jvm.Cond.selects xm_229.1.cls xm_229.1 xm_229.1 ∈ lw_tbl := ⟨xpos (i := 18603) (by decide +kernel), xpos (i := 18605) (by decide +kernel)⟩
theorem lw_ok_256 : lw_Ok xm_256 2 := ⟨xwg_of (i := 15389) (by decide +kernel), xpos (i := 9217) (by decide +kernel), xpos (i := 15387) (by decide +kernel), by decide +kernel, by decide +kernel⟩
theorem lw_ok_257 : lw_Ok xm_257 2 := ⟨xwg_of (i := 18611) (by decide +kernel), xpos (i := 9230) (by decide +kernel), xpos (i := 18609) (by decide +kernel), by decide +kernel, by decide +kernel⟩
theorem xin_256 : xm_256 ∈ xMs := List.mem_of_getElem? (i := 256) rfl
theorem xin_257 : xm_257 ∈ xMs := List.mem_of_getElem? (i := 257) rfl
theorem lw_lk_256 : Jvm.Cond.methodLink R_law 215 xm_256.1 ∈ lw_tbl ∧ Jvm.Cond.selects xm_256.1.cls xm_256.1 xm_256.1 ∈ lw_tbl := ⟨xpos (i := 15386) (by decide +kernel), xpos (i := 15388) (by decide +kernel)⟩
theorem lw_lk_257 : Jvm.Cond.methodLink R_law 218 xm_257.1 ∈ lw_tbl ∧ Jvm.Cond.selects xm_257.1.cls xm_257.1 xm_257.1 ∈ lw_tbl := ⟨xpos (i := 18608) (by decide +kernel), xpos (i := 18610) (by decide +kernel)⟩
theorem lw_ok_258 : lw_Ok xm_258 3 := ⟨xwg_of (i := 15402) (by decide +kernel), xpos (i := 9217) (by decide +kernel), xpos (i := 15400) (by decide +kernel), by decide +kernel, by decide +kernel⟩
theorem lw_ok_259 : lw_Ok xm_259 3 := ⟨xwg_of (i := 18629) (by decide +kernel), xpos (i := 9230) (by decide +kernel), xpos (i := 18627) (by decide +kernel), by decide +kernel, by decide +kernel⟩
theorem xin_258 : xm_258 ∈ xMs := List.mem_of_getElem? (i := 258) rfl
theorem xin_259 : xm_259 ∈ xMs := List.mem_of_getElem? (i := 259) rfl
theorem lw_lk_258 : Jvm.Cond.methodLink R_law 219 xm_258.1 ∈ lw_tbl ∧ Jvm.Cond.selects xm_258.1.cls xm_258.1 xm_258.1 ∈ lw_tbl := ⟨xpos (i := 15399) (by decide +kernel), xpos (i := 15401) (by decide +kernel)⟩
theorem lw_lk_259 : Jvm.Cond.methodLink R_law 222 xm_259.1 ∈ lw_tbl ∧ Jvm.Cond.selects xm_259.1.cls xm_259.1 xm_259.1 ∈ lw_tbl := ⟨xpos (i := 18626) (by decide +kernel), xpos (i := 18628) (by decide +kernel)⟩
theorem lw_ok_230 : lw_Ok xm_230 2 := ⟨xwg_of (i := 15411) (by decide +kernel), xpos (i := 9217) (by decide +kernel), xpos (i := 15409) (by decide +kernel), by decide +kernel, by decide +kernel⟩
theorem lw_ok_231 : lw_Ok xm_231 2 := ⟨xwg_of (i := 18637) (by decide +kernel), xpos (i := 9230) (by decide +kernel), xpos (i := 18635) (by decide +kernel), by decide +kernel, by decide +kernel⟩
theorem xin_230 : xm_230 ∈ xMs := List.mem_of_getElem? (i := 230) rfl
theorem xin_231 : xm_231 ∈ xMs := List.mem_of_getElem? (i := 231) rfl
theorem lw_lk_230 : Jvm.Cond.methodLink R_law 223 xm_230.1 ∈ lw_tbl ∧ Jvm.Cond.selects xm_230.1.cls xm_230.1 xm_230.1 ∈ lw_tbl := ⟨xpos (i := 15408) (by decide +kernel), xpos (i := 15410) (by decide +kernel)⟩
theorem lw_lk_231 : Jvm.Cond.methodLink R_law 226 xm_231.1 ∈ lw_tbl ∧ Jvm.Cond.selects xm_231.1.cls xm_231.1 xm_231.1 ∈ lw_tbl := ⟨xpos (i := 18634) (by decide +kernel), xpos (i := 18636) (by decide +kernel)⟩
theorem lw_ok_232 : lw_Ok xm_232 3 := ⟨xwg_of (i := 15415) (by decide +kernel), xpos (i := 9217) (by decide +kernel), xpos (i := 15413) (by decide +kernel), by decide +kernel, by decide +kernel⟩
theorem lw_ok_233 : lw_Ok xm_233 3 := ⟨xwg_of (i := 18641) (by decide +kernel), xpos (i := 9230) (by decide +kernel), xpos (i := 18639) (by decide +kernel), by decide +kernel, by decide +kernel⟩
theorem xin_232 : xm_232 ∈ xMs := List.mem_of_getElem? (i := 232) rfl
theorem xin_233 : xm_233 ∈ xMs := List.mem_of_getElem? (i := 233) rfl
theorem lw_lk_232 : Jvm.Cond.methodLink R_law 227 xm_232.1 ∈ lw_tbl ∧ Jvm.Cond.selects xm_232.1.cls xm_232.1 xm_232.1 ∈ lw_tbl := ⟨xpos (i := 15412) (by decide +kernel), xpos (i := 15414) (by decide +kernel)⟩
theorem lw_lk_233 : Jvm.Cond.methodLink R_law 230 xm_233.1 ∈ lw_tbl ∧ Jvm.Cond.selects xm_233.1.cls xm_233.1 xm_233.1 ∈ lw_tbl := ⟨xpos (i := 18638) (by decide +kernel), xpos (i := 18640) (by decide +kernel)⟩
theorem lw_ok_234 : lw_Ok xm_234 1 := ⟨xwg_of (i := 15424) (by decide +kernel), xpos (i := 9217) (by decide +kernel), xpos (i := 15422) (by decide +kernel), by decide +kernel, by decide +kernel⟩
theorem lw_ok_235 : lw_Ok xm_235 1 := ⟨xwg_of (i := 18645) (by decide +kernel), xpos (i := 9230) (by decide +kernel), xpos (i := 18643) (by decide +kernel), by decide +kernel, by decide +kernel⟩
theorem xin_234 : xm_234 ∈ xMs := List.mem_of_getElem? (i := 234) rfl
theorem xin_235 : xm_235 ∈ xMs := List.mem_of_getElem? (i := 235) rfl
theorem lw_lk_234 : Jvm.Cond.methodLink R_law 231 xm_234.1 ∈ lw_tbl ∧ Jvm.Cond.selects xm_234.1.cls xm_234.1 xm_234.1 ∈ lw_tbl := ⟨xpos (i := 15421) (by decide +kernel), xpos (i := 15423) (by decide +kernel)⟩
theorem lw_lk_235 : Jvm.Cond.methodLink R_law 234 xm_235.1 ∈ lw_tbl ∧ Jvm.Cond.selects xm_235.1.cls xm_235.1 xm_235.1 ∈ lw_tbl := ⟨xpos (i := 18642) (by decide +kernel), xpos (i := 18644) (by decide +kernel)⟩
theorem lw_ok_236 : lw_Ok xm_236 2 := ⟨xwg_of (i := 15436) (by decide +kernel), xpos (i := 9217) (by decide +kernel), xpos (i := 15434) (by decide +kernel), by decide +kernel, by decide +kernel⟩
theorem lw_ok_237 : lw_Ok xm_237 2 := ⟨xwg_of (i := 18649) (by decide +kernel), xpos (i := 9230) (by decide +kernel), xpos (i := 18647) (by decide +kernel), by decide +kernel, by decide +kernel⟩
theorem xin_236 : xm_236 ∈ xMs := List.mem_of_getElem? (i := 236) rfl
theorem xin_237 : xm_237 ∈ xMs := List.mem_of_getElem? (i := 237) rfl
theorem lw_lk_236 : Jvm.Cond.methodLink R_law 235 xm_236.1 ∈ lw_tbl ∧ Jvm.Cond.selects xm_236.1.cls xm_236.1 xm_236.1 ∈ lw_tbl := ⟨xpos (i := 15433) (by decide +kernel), xpos (i := 15435) (by decide +kernel)⟩
theorem lw_lk_237 : Jvm.Cond.methodLink R_law 238 xm_237.1 ∈ lw_tbl ∧ Jvm.Cond.selects xm_237.1.cls xm_237.1 xm_237.1 ∈ lw_tbl := ⟨xpos (i := 18646) (by decide +kernel), xpos (i := 18648) (by decide +kernel)⟩
theorem lw_ok_238 : lw_Ok xm_238 1 := ⟨xwg_of (i := 15444) (by decide +kernel), xpos (i := 9217) (by decide +kernel), xpos (i := 15442) (by decide +kernel), by decide +kernel, by decide +kernel⟩
theorem lw_ok_239 : lw_Ok xm_239 1 := ⟨xwg_of (i := 18653) (by decide +kernel), xpos (i := 9230) (by decide +kernel), xpos (i := 18651) (by decide +kernel), by decide +kernel, by decide +kernel⟩
theorem xin_238 : xm_238 ∈ xMs := List.mem_of_getElem? (i := 238) rfl
theorem xin_239 : xm_239 ∈ xMs := List.mem_of_getElem? (i := 239) rfl
theorem lw_lk_238 : Jvm.Cond.methodLink R_law 239 xm_238.1 ∈ lw_tbl ∧ Jvm.Cond.selects xm_238.1.cls xm_238.1 xm_238.1 ∈ lw_tbl := ⟨xpos (i := 15441) (by decide +kernel), xpos (i := 15443) (by decide +kernel)⟩
theorem lw_lk_239 : Jvm.Cond.methodLink R_law 242 xm_239.1 ∈ lw_tbl ∧ Jvm.Cond.selects xm_239.1.cls xm_239.1 xm_239.1 ∈ lw_tbl := ⟨xpos (i := 18650) (by decide +kernel), xpos (i := 18652) (by decide +kernel)⟩
theorem lw_ok_240 : lw_Ok xm_240 3 := ⟨xwg_of (i := 15457) (by decide +kernel), xpos (i := 9217) (by decide +kernel), xpos (i := 15455) (by decide +kernel), by decide +kernel, by decide +kernel⟩
theorem lw_ok_241 : lw_Ok xm_241 3 := ⟨xwg_of (i := 18657) (by decide +kernel), xpos (i := 9230) (by decide +kernel), xpos (i := 18655) (by decide +kernel), by decide +kernel, by decide +kernel⟩
theorem xin_240 : xm_240 ∈ xMs := List.mem_of_getElem? (i := 240) rfl
theorem xin_241 : xm_241 ∈ xMs := List.mem_of_getElem? (i := 241) rfl
theorem lw_lk_240 : Jvm.Cond.methodLink R_law 243 xm_240.1 ∈ lw_tbl ∧ Jvm.Cond.selects xm_240.1.cls xm_240.1 xm_240.1 ∈ lw_tbl := ⟨xpos (i := 15454) (by decide +kernel), xpos (i := 15456) (by decide +kernel)⟩
theorem lw_lk_241 : Jvm.Cond.methodLink R_law 246 xm_241.1 ∈ lw_tbl ∧ Jvm.Cond.selects xm_241.1.cls xm_241.1 xm_241.1 ∈ lw_tbl := ⟨xpos (i := 18654) (by decide +kernel), xpos (i := 18656) (by decide +kernel)⟩
theorem lw_ok_242 : lw_Ok xm_242 2 := ⟨xwg_of (i := 15465) (by decide +kernel), xpos (i := 9217) (by decide +kernel), xpos (i := 15463) (by decide +kernel), by decide +kernel, by decide +kernel⟩
theorem lw_ok_243 : lw_Ok xm_243 2 := ⟨xwg_of (i := 18662) (by decide +kernel), xpos (i := 9230) (by decide +kernel), xpos (i := 18660) (by decide +kernel), by decide +kernel, by decide +kernel⟩
theorem xin_242 : xm_242 ∈ xMs := List.mem_of_getElem? (i := 242) rfl
theorem xin_243 : xm_243 ∈ xMs := List.mem_of_getElem? (i := 243) rfl
theorem lw_lk_242 : Jvm.Cond.methodLink R_law 247 xm_242.1 ∈ lw_tbl ∧ Jvm.Cond.selects xm_242.1.cls xm_242.1 xm_242.1 ∈ lw_tbl := ⟨xpos (i := 15462) (by decide +kernel), xpos (i := 15464) (by decide +kernel)⟩
theorem lw_lk_243 : Jvm.Cond.methodLink R_law 250 xm_243.1 ∈ lw_tbl ∧ Jvm.Cond.selects xm_243.1.cls xm_243.1 xm_243.1 ∈ lw_tbl := ⟨xpos (i := 18659) (by decide +kernel), xpos (i := 18661) (by decide +kernel)⟩
theorem lw_ok_244 : lw_Ok xm_244 2 := ⟨xwg_of (i := 15485) (by decide +kernel), xpos (i := 9217) (by decide +kernel), xpos (i := 15483) (by decide +kernel), by decide +kernel, by decide +kernel⟩
theorem lw_ok_245 : lw_Ok xm_245 2 := ⟨xwg_of (i := 19463) (by decide +kernel), xpos (i := 9230) (by decide +kernel), xpos (i := 19461) (by decide +kernel), by decide +kernel, by decide +kernel⟩
theorem xin_244 : xm_244 ∈ xMs := List.mem_of_getElem? (i := 244) rfl
theorem xin_245 : xm_245 ∈ xMs := List.mem_of_getElem? (i := 245) rfl
theorem lw_lk_244 : Jvm.Cond.methodLink R_law 251 xm_244.1 ∈ lw_tbl ∧ Jvm.Cond.selects xm_244.1.cls xm_244.1 xm_244.1 ∈ lw_tbl := ⟨xpos (i := 15482) (by decide +kernel), xpos (i := 15484) (by decide +kernel)⟩
theorem lw_lk_245 : Jvm.Cond.methodLink R_law 254 xm_245.1 ∈ lw_tbl ∧ Jvm.Cond.selects xm_245.1.cls xm_245.1 xm_245.1 ∈ lw_tbl := ⟨xpos (i := 19460) (by decide +kernel), xpos (i := 19462) (by decide +kernel)⟩
theorem lw_ok_246 : lw_Ok xm_246 1 := ⟨xwg_of (i := 15489) (by decide +kernel), xpos (i := 9217) (by decide +kernel), xpos (i := 15487) (by decide +kernel), by decide +kernel, by decide +kernel⟩
theorem lw_ok_247 : lw_Ok xm_247 1 := ⟨xwg_of (i := 19467) (by decide +kernel), xpos (i := 9230) (by decide +kernel), xpos (i := 19465) (by decide +kernel), by decide +kernel, by decide +kernel⟩
theorem xin_246 : xm_246 ∈ xMs := List.mem_of_getElem? (i := 246) rfl
theorem xin_247 : xm_247 ∈ xMs := List.mem_of_getElem? (i := 247) rfl
theorem lw_lk_246 : Jvm.Cond.methodLink R_law 255 xm_246.1 ∈ lw_tbl ∧ Jvm.Cond.selects xm_246.1.cls xm_246.1 xm_246.1 ∈ lw_tbl := ⟨xpos (i := 15486) (by decide +kernel), xpos (i := 15488) (by decide +kernel)⟩
theorem lw_lk_247 : Jvm.Cond.methodLink R_law 258 xm_247.1 ∈ lw_tbl ∧ Jvm.Cond.selects xm_247.1.cls xm_247.1 xm_247.1 ∈ lw_tbl := ⟨xpos (i := 19464) (by decide +kernel), xpos (i := 19466) (by decide +kernel)⟩
theorem lw_ok_260 : lw_Ok xm_260 3 := ⟨xwg_of (i := 15493) (by decide +kernel), xpos (i := 9217) (by decide +kernel), xpos (i := 15491) (by decide +kernel), by decide +kernel, by decide +kernel⟩
theorem lw_ok_261 : lw_Ok xm_261 3 := ⟨xwg_of (i := 19471) (by decide +kernel), xpos (i := 9230) (by decide +kernel), xpos (i := 19469) (by decide +kernel), by decide +kernel, by decide +kernel⟩
theorem xin_260 : xm_260 ∈ xMs := List.mem_of_getElem? (i := 260) rfl
theorem xin_261 : xm_261 ∈ xMs := List.mem_of_getElem? (i := 261) rfl
theorem lw_lk_260 : Jvm.Cond.methodLink R_law 259 xm_260.1 ∈ lw_tbl ∧ Jvm.Cond.selects xm_260.1.cls xm_260.1 xm_260.1 ∈ lw_tbl := ⟨xpos (i := 15490) (by decide +kernel), xpos (i := 15492) (by decide +kernel)⟩
theorem lw_lk_261 : Jvm.Cond.methodLink R_law 262 xm_261.1 ∈ lw_tbl ∧ Jvm.Cond.selects xm_261.1.cls xm_261.1 xm_261.1 ∈ lw_tbl := ⟨xpos (i := 19468) (by decide +kernel), xpos (i := 19470) (by decide +kernel)⟩
theorem lw_ok_248 : lw_Ok xm_248 0 := ⟨xwg_of (i := 15541) (by decide +kernel), xpos (i := 9217) (by decide +kernel), xpos (i := 15539) (by decide +kernel), by decide +kernel, by decide +kernel⟩
theorem lw_ok_249 : lw_Ok xm_249 0 := ⟨xwg_of (i := 19495) (by decide +kernel), xpos (i := 9230) (by decide +kernel), xpos (i := 19493) (by decide +kernel), by decide +kernel, by decide +kernel⟩
theorem xin_248 : xm_248 ∈ xMs := List.mem_of_getElem? (i := 248) rfl
theorem xin_249 : xm_249 ∈ xMs := List.mem_of_getElem? (i := 249) rfl
theorem lw_lk_248 : Jvm.Cond.methodLink R_law 263 xm_248.1 ∈ lw_tbl ∧ Jvm.Cond.selects xm_248.1.cls xm_248.1 xm_248.1 ∈ lw_tbl := ⟨xpos (i := 15538) (by decide +kernel), xpos (i := 15540) (by decide +kernel)⟩
theorem lw_lk_249 : Jvm.Cond.methodLink R_law 266 xm_249.1 ∈ lw_tbl ∧ Jvm.Cond.selects xm_249.1.cls xm_249.1 xm_249.1 ∈ lw_tbl := ⟨xpos (i := 19492) (by decide +kernel), xpos (i := 19494) (by decide +kernel)⟩
theorem lw_ok_250 : lw_Ok xm_250 0 := ⟨xwg_of (i := 15556) (by decide +kernel), xpos (i := 9217) (by decide +kernel), xpos (i := 15554) (by decide +kernel), by decide +kernel, by decide +kernel⟩
theorem lw_ok_251 : lw_Ok xm_251 0 := ⟨xwg_of (i := 19499) (by decide +kernel), xpos (i := 9230) (by decide +kernel), xpos (i := 19497) (by decide +kernel), by decide +kernel, by decide +kernel⟩
theorem xin_250 : xm_250 ∈ xMs := List.mem_of_getElem? (i := 250) rfl
theorem xin_251 : xm_251 ∈ xMs := List.mem_of_getElem? (i := 251) rfl
theorem lw_lk_250 : Jvm.Cond.methodLink R_law 267 xm_250.1 ∈ lw_tbl ∧ Jvm.Cond.selects xm_250.1.cls xm_250.1 xm_250.1 ∈ lw_tbl := ⟨xpos (i := 15553) (by decide +kernel), xpos (i := 15555) (by decide +kernel)⟩
theorem lw_lk_251 : Jvm.Cond.methodLink R_law 270 xm_251.1 ∈ lw_tbl ∧ Jvm.Cond.selects xm_251.1.cls xm_251.1 xm_251.1 ∈ lw_tbl := ⟨xpos (i := 19496) (by decide +kernel), xpos (i := 19498) (by decide +kernel)⟩
theorem lw_ok_252 : lw_Ok xm_252 1 := ⟨xwg_of (i := 15560) (by decide +kernel), xpos (i := 9217) (by decide +kernel), xpos (i := 15558) (by decide +kernel), by decide +kernel, by decide +kernel⟩
theorem lw_ok_253 : lw_Ok xm_253 1 := ⟨xwg_of (i := 19503) (by decide +kernel), xpos (i := 9230) (by decide +kernel), xpos (i := 19501) (by decide +kernel), by decide +kernel, by decide +kernel⟩
theorem xin_252 : xm_252 ∈ xMs := List.mem_of_getElem? (i := 252) rfl
theorem xin_253 : xm_253 ∈ xMs := List.mem_of_getElem? (i := 253) rfl
theorem lw_lk_252 : Jvm.Cond.methodLink R_law 271 xm_252.1 ∈ lw_tbl ∧ Jvm.Cond.selects xm_252.1.cls xm_252.1 xm_252.1 ∈ lw_tbl := ⟨xpos (i := 15557) (by decide +kernel), xpos (i := 15559) (by decide +kernel)⟩
theorem lw_lk_253 : Jvm.Cond.methodLink R_law 274 xm_253.1 ∈ lw_tbl ∧ Jvm.Cond.selects xm_253.1.cls xm_253.1 xm_253.1 ∈ lw_tbl := ⟨xpos (i := 19500) (by decide +kernel), xpos (i := 19502) (by decide +kernel)⟩

/-! one call on fresh objects: both answer alike (written by gen34.py) -/
theorem xop_0 : xargs (xvs 1) 0 (fun lv => xrun xMs 100000 xm_134 (xcd xm_134) (lv, [], xenv0, xSX, 761, 0, 0) (xKn xMs 100000 xm_135 xSM 21 1 761)) = true := by decide +kernel
theorem xop_1 : xargs (xvs 3) 0 (fun lv => xrun xMs 100000 xm_136 (xcd xm_136) (lv, [], xenv0, xSX, 761, 0, 0) (xKn xMs 100000 xm_137 xSM 21 3 761)) = true := by decide +kernel
theorem xop_2 : xargs (xvs 2) 0 (fun lv => xrun xMs 100000 xm_138 (xcd xm_138) (lv, [], xenv0, xSX, 761, 0, 0) (xKn xMs 100000 xm_139 xSM 21 2 761)) = true := by decide +kernel
theorem xop_3 : xargs (xvs 3) 0 (fun lv => xrun xMs 100000 xm_140 (xcd xm_140) (lv, [], xenv0, xSX, 761, 0, 0) (xKn xMs 100000 xm_141 xSM 21 3 761)) = true := by decide +kernel
theorem xop_4 : xargs (xvs 3) 0 (fun lv => xrun xMs 100000 xm_142 (xcd xm_142) (lv, [], xenv0, xSX, 761, 0, 0) (xKn xMs 100000 xm_143 xSM 21 3 761)) = true := by decide +kernel
theorem xop_5 : xargs (xvs 2) 0 (fun lv => xrun xMs 100000 xm_144 (xcd xm_144) (lv, [], xenv0, xSX, 761, 0, 0) (xKn xMs 100000 xm_145 xSM 21 2 761)) = true := by decide +kernel
theorem xop_6 : xargs (xvs 3) 0 (fun lv => xrun xMs 100000 xm_146 (xcd xm_146) (lv, [], xenv0, xSX, 761, 0, 0) (xKn xMs 100000 xm_147 xSM 21 3 761)) = true := by decide +kernel
theorem xop_7 : xargs (xvs 5) 0 (fun lv => xrun xMs 100000 xm_148 (xcd xm_148) (lv, [], xenv0, xSX, 761, 0, 0) (xKn xMs 100000 xm_149 xSM 21 5 761)) = true := by decide +kernel
theorem xop_8 : xargs (xvs 2) 0 (fun lv => xrun xMs 100000 xm_150 (xcd xm_150) (lv, [], xenv0, xSX, 761, 0, 0) (xKn xMs 100000 xm_151 xSM 21 2 761)) = true := by decide +kernel
theorem xop_9 : xargs (xvs 2) 0 (fun lv => xrun xMs 100000 xm_152 (xcd xm_152) (lv, [], xenv0, xSX, 761, 0, 0) (xKn xMs 100000 xm_153 xSM 21 2 761)) = true := by decide +kernel
theorem xop_10 : xargs (xvs 3) 0 (fun lv => xrun xMs 100000 xm_154 (xcd xm_154) (lv, [], xenv0, xSX, 761, 0, 0) (xKn xMs 100000 xm_155 xSM 21 3 761)) = true := by decide +kernel
theorem xop_11 : xargs (xvs 1) 0 (fun lv => xrun xMs 100000 xm_156 (xcd xm_156) (lv, [], xenv0, xSX, 761, 0, 0) (xKn xMs 100000 xm_157 xSM 21 1 761)) = true := by decide +kernel
theorem xop_12 : xargs (xvs 1) 0 (fun lv => xrun xMs 100000 xm_158 (xcd xm_158) (lv, [], xenv0, xSX, 761, 0, 0) (xKn xMs 100000 xm_159 xSM 21 1 761)) = true := by decide +kernel
theorem xop_13 : xargs (xvs 1) 0 (fun lv => xrun xMs 100000 xm_160 (xcd xm_160) (lv, [], xenv0, xSX, 761, 0, 0) (xKn xMs 100000 xm_161 xSM 21 1 761)) = true := by decide +kernel

/-! one call on fresh objects: both answer alike (written by gen34.py) -/
theorem xop_14 : xargs (xvs 1) 0 (fun lv => xrun xMs 100000 xm_162 (xcd xm_162) (lv, [], xenv0, xSX, 761, 0, 0) (xKn xMs 100000 xm_163 xSM 21 1 761)) = true := by decide +kernel
theorem xop_15 : xargs (xvs 3) 0 (fun lv => xrun xMs 100000 xm_164 (xcd xm_164) (lv, [], xenv0, xSX, 761, 0, 0) (xKn xMs 100000 xm_165 xSM 21 3 761)) = true := by decide +kernel
theorem xop_16 : xargs (xvs 2) 0 (fun lv => xrun xMs 100000 xm_166 (xcd xm_166) (lv, [], xenv0, xSX, 761, 0, 0) (xKn xMs 100000 xm_167 xSM 21 2 761)) = true := by decide +kernel
theorem xop_17 : xargs (xvs 1) 0 (fun lv => xrun xMs 100000 xm_168 (xcd xm_168) (lv, [], xenv0, xSX, 761, 0, 0) (xKn xMs 100000 xm_169 xSM 21 1 761)) = true := by decide +kernel
theorem xop_19 : xargs (xvs 3) 0 (fun lv => xrun xMs 100000 xm_172 (xcd xm_172) (lv, [], xenv0, xSX, 761, 0, 0) (xKn xMs 100000 xm_173 xSM 21 3 761)) = true := by decide +kernel
theorem xop_20 : xargs (xvs 3) 0 (fun lv => xrun xMs 100000 xm_174 (xcd xm_174) (lv, [], xenv0, xSX, 761, 0, 0) (xKn xMs 100000 xm_175 xSM 21 3 761)) = true := by decide +kernel
theorem xop_21 : xargs (xvs 2) 0 (fun lv => xrun xMs 100000 xm_176 (xcd xm_176) (lv, [], xenv0, xSX, 761, 0, 0) (xKn xMs 100000 xm_177 xSM 21 2 761)) = true := by decide +kernel
theorem xop_22 : xargs (xvs 1) 0 (fun lv => xrun xMs 100000 xm_178 (xcd xm_178) (lv, [], xenv0, xSX, 761, 0, 0) (xKn xMs 100000 xm_179 xSM 21 1 761)) = true := by decide +kernel
theorem xop_23 : xargs (xvs 3) 0 (fun lv => xrun xMs 100000 xm_180 (xcd xm_180) (lv, [], xenv0, xSX, 761, 0, 0) (xKn xMs 100000 xm_181 xSM 21 3 761)) = true := by decide +kernel
theorem xop_24 : xargs (xvs 1) 0 (fun lv => xrun xMs 100000 xm_182 (xcd xm_182) (lv, [], xenv0, xSX, 761, 0, 0) (xKn xMs 100000 xm_183 xSM 21 1 761)) = true := by decide +kernel
theorem xop_26 : xargs (xvs 2) 0 (fun lv => xrun xMs 100000 xm_184 (xcd xm_184) (lv, [], xenv0, xSX, 761, 0, 0) (xKn xMs 100000 xm_185 xSM 21 2 761)) = true := by decide +kernel
theorem xop_27 : xargs (xvs 1) 0 (fun lv => xrun xMs 100000 xm_186 (xcd xm_186) (lv, [], xenv0, xSX, 761, 0, 0) (xKn xMs 100000 xm_187 xSM 21 1 761)) = true := by decide +kernel
theorem xop_28 : xargs (xvs 2) 0 (fun lv => xrun xMs 100000 xm_188 (xcd xm_188) (lv, [], xenv0, xSX, 761, 0, 0) (xKn xMs 100000 xm_189 xSM 21 2 761)) = true := by decide +kernel
theorem xop_29 : xargs (xvs 0) 0 (fun lv => xrun xMs 100000 xm_190 (xcd xm_190) (lv, [], xenv0, xSX, 761, 0, 0) (xKn xMs 100000 xm_191 xSM 21 0 761)) = true := by decide +kernel

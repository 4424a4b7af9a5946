/-! one call on fresh objects: both answer alike (written by gen34.py) -/
theorem xop_30 : xargs (xvs 3) 0 (fun lv => xrun xMs 100000 xm_192 (xcd xm_192) (lv, [], xenv0, xSX, 761, 0, 0) (xKn xMs 100000 xm_193 xSM 21 3 761)) = true := by decide +kernel
theorem xop_31 : xargs (xvs 1) 0 (fun lv => xrun xMs 100000 xm_194 (xcd xm_194) (lv, [], xenv0, xSX, 761, 0, 0) (xKn xMs 100000 xm_195 xSM 21 1 761)) = true := by decide +kernel
theorem xop_32 : xargs (xvs 2) 0 (fun lv => xrun xMs 100000 xm_196 (xcd xm_196) (lv, [], xenv0, xSX, 761, 0, 0) (xKn xMs 100000 xm_197 xSM 21 2 761)) = true := by decide +kernel
theorem xop_33 : xargs (xvs 1) 0 (fun lv => xrun xMs 100000 xm_198 (xcd xm_198) (lv, [], xenv0, xSX, 761, 0, 0) (xKn xMs 100000 xm_199 xSM 21 1 761)) = true := by decide +kernel
theorem xop_34 : xargs (xvs 0) 0 (fun lv => xrun xMs 100000 xm_200 (xcd xm_200) (lv, [], xenv0, xSX, 761, 0, 0) (xKn xMs 100000 xm_201 xSM 21 0 761)) = true := by decide +kernel
theorem xop_35 : xargs (xvs 0) 0 (fun lv => xrun xMs 100000 xm_202 (xcd xm_202) (lv, [], xenv0, xSX, 761, 0, 0) (xKn xMs 100000 xm_203 xSM 21 0 761)) = true := by decide +kernel
theorem xop_36 : xargs (xvs 3) 0 (fun lv => xrun xMs 100000 xm_204 (xcd xm_204) (lv, [], xenv0, xSX, 761, 0, 0) (xKn xMs 100000 xm_205 xSM 21 3 761)) = true := by decide +kernel
theorem xop_37 : xargs (xvs 3) 0 (fun lv => xrun xMs 100000 xm_206 (xcd xm_206) (lv, [], xenv0, xSX, 761, 0, 0) (xKn xMs 100000 xm_207 xSM 21 3 761)) = true := by decide +kernel
theorem xop_38 : xargs (xvs 2) 0 (fun lv => xrun xMs 100000 xm_208 (xcd xm_208) (lv, [], xenv0, xSX, 761, 0, 0) (xKn xMs 100000 xm_209 xSM 21 2 761)) = true := by decide +kernel
theorem xop_39 : xargs (xvs 2) 0 (fun lv => xrun xMs 100000 xm_210 (xcd xm_210) (lv, [], xenv0, xSX, 761, 0, 0) (xKn xMs 100000 xm_211 xSM 21 2 761)) = true := by decide +kernel
theorem xop_40 : xargs (xvs 5) 0 (fun lv => xrun xMs 100000 xm_212 (xcd xm_212) (lv, [], xenv0, xSX, 761, 0, 0) (xKn xMs 100000 xm_213 xSM 21 5 761)) = true := by decide +kernel
theorem xop_41 : xargs (xvs 3) 0 (fun lv => xrun xMs 100000 xm_214 (xcd xm_214) (lv, [], xenv0, xSX, 761, 0, 0) (xKn xMs 100000 xm_215 xSM 21 3 761)) = true := by decide +kernel
theorem xop_43 : xargs (xvs 1) 0 (fun lv => xrun xMs 100000 xm_218 (xcd xm_218) (lv, [], xenv0, xSX, 761, 0, 0) (xKn xMs 100000 xm_219 xSM 21 1 761)) = true := by decide +kernel
theorem xop_44 : xargs (xvs 2) 0 (fun lv => xrun xMs 100000 xm_220 (xcd xm_220) (lv, [], xenv0, xSX, 761, 0, 0) (xKn xMs 100000 xm_221 xSM 21 2 761)) = true := by decide +kernel

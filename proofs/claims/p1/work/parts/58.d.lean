/-! one call on fresh objects: both answer alike (written by gen34.py) -/
theorem xop_46 : xargs (xvs 4) 0 (fun lv => xrun xMs 100000 xm_224 (xcd xm_224) (lv, [], xenv0, xSX, 761, 0, 0) (xKn xMs 100000 xm_225 xSM 21 4 761)) = true := by decide +kernel
theorem xop_47 : xargs (xvs 2) 0 (fun lv => xrun xMs 100000 xm_226 (xcd xm_226) (lv, [], xenv0, xSX, 761, 0, 0) (xKn xMs 100000 xm_227 xSM 21 2 761)) = true := by decide +kernel
theorem xop_48 : xargs (xvs 3) 0 (fun lv => xrun xMs 100000 xm_228 (xcd xm_228) (lv, [], xenv0, xSX, 761, 0, 0) (xKn xMs 100000 xm_229 xSM 21 3 761)) = true := by decide +kernel
theorem xop_51 : xargs (xvs 2) 0 (fun lv => xrun xMs 100000 xm_230 (xcd xm_230) (lv, [], xenv0, xSX, 761, 0, 0) (xKn xMs 100000 xm_231 xSM 21 2 761)) = true := by decide +kernel
theorem xop_52 : xargs (xvs 3) 0 (fun lv => xrun xMs 100000 xm_232 (xcd xm_232) (lv, [], xenv0, xSX, 761, 0, 0) (xKn xMs 100000 xm_233 xSM 21 3 761)) = true := by decide +kernel
theorem xop_53 : xargs (xvs 1) 0 (fun lv => xrun xMs 100000 xm_234 (xcd xm_234) (lv, [], xenv0, xSX, 761, 0, 0) (xKn xMs 100000 xm_235 xSM 21 1 761)) = true := by decide +kernel
theorem xop_54 : xargs (xvs 2) 0 (fun lv => xrun xMs 100000 xm_236 (xcd xm_236) (lv, [], xenv0, xSX, 761, 0, 0) (xKn xMs 100000 xm_237 xSM 21 2 761)) = true := by decide +kernel
theorem xop_55 : xargs (xvs 1) 0 (fun lv => xrun xMs 100000 xm_238 (xcd xm_238) (lv, [], xenv0, xSX, 761, 0, 0) (xKn xMs 100000 xm_239 xSM 21 1 761)) = true := by decide +kernel
theorem xop_56 : xargs (xvs 3) 0 (fun lv => xrun xMs 100000 xm_240 (xcd xm_240) (lv, [], xenv0, xSX, 761, 0, 0) (xKn xMs 100000 xm_241 xSM 21 3 761)) = true := by decide +kernel
theorem xop_57 : xargs (xvs 2) 0 (fun lv => xrun xMs 100000 xm_242 (xcd xm_242) (lv, [], xenv0, xSX, 761, 0, 0) (xKn xMs 100000 xm_243 xSM 21 2 761)) = true := by decide +kernel
theorem xop_58 : xargs (xvs 2) 0 (fun lv => xrun xMs 100000 xm_244 (xcd xm_244) (lv, [], xenv0, xSX, 761, 0, 0) (xKn xMs 100000 xm_245 xSM 21 2 761)) = true := by decide +kernel
theorem xop_59 : xargs (xvs 1) 0 (fun lv => xrun xMs 100000 xm_246 (xcd xm_246) (lv, [], xenv0, xSX, 761, 0, 0) (xKn xMs 100000 xm_247 xSM 21 1 761)) = true := by decide +kernel
theorem xop_62 : xargs (xvs 0) 0 (fun lv => xrun xMs 100000 xm_250 (xcd xm_250) (lv, [], xenv0, xSX, 761, 0, 0) (xKn xMs 100000 xm_251 xSM 21 0 761)) = true := by decide +kernel
theorem xop_63 : xargs (xvs 1) 0 (fun lv => xrun xMs 100000 xm_252 (xcd xm_252) (lv, [], xenv0, xSX, 761, 0, 0) (xKn xMs 100000 xm_253 xSM 21 1 761)) = true := by decide +kernel

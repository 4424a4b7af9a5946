def xenvp (lo hi : Nat) : xE := [(0, 4294967295), (lo, hi), (0, 4294967295), (0, 4294967295), (0, 4294967295), (0, 4294967295)]
def xbs_49 : List xBx := [([(1, 2147483649, 2147483672), (2, 2147483648, 2147483948)], .inl 0), ([], .inl 3294967295)]
theorem xsx_49 : xargs (xvs 2) 0 (fun lv => xrunS xMs dkSum 200000 xm_256 (xcd xm_256) (lv, [], xenv0, xSX, 761, 0, 0) (xKs xbs_49 761)) = true := by decide +kernel
theorem xsm_49 : xargs (xvs 2) 0 (fun lv => xrunS xMs flSum 200000 xm_257 (xcd xm_257) (lv, [], xenv0, xSM, 21, 0, 0) (xKs xbs_49 21)) = true := by decide +kernel
def xbs_60 : List xBx := [([(1, 2147483648, 2147483648), (2, 2147483649, 2147483672), (3, 2147483648, 2147483948)], .inl 1), ([(1, 2147483649, 2147483649), (2, 2147483649, 2147483708)], .inl 0), ([(1, 2147483650, 2147483650), (2, 2147483649, 2147483672)], .inl 3294967294), ([], .inl 3294967295)]
theorem xsx_60 : xargs (xvs 3) 0 (fun lv => xrunS xMs dkSum 200000 xm_260 (xcd xm_260) (lv, [], xenv0, xSX, 761, 0, 0) (xKs xbs_60 761)) = true := by decide +kernel
theorem xsm_60 : xargs (xvs 3) 0 (fun lv => xrunS xMs flSum 200000 xm_261 (xcd xm_261) (lv, [], xenv0, xSM, 21, 0, 0) (xKs xbs_60 21)) = true := by decide +kernel
def xbs_45 : List xBx := [([(1, 2147483649, 2147483696), (2, 2147483648, 2147483657)], .inl 3294967291), ([], .inl 3294967295)]
theorem xsx_45 : xargs (xvs 2) 0 (fun lv => xrun xMs 200000 xm_222 (xcd xm_222) (lv, [], xenv0, xSX, 761, 0, 0) (xKs xbs_45 761)) = true := by decide +kernel
theorem xsm_45 : xargs (xvs 2) 0 (fun lv => xrun xMs 200000 xm_223 (xcd xm_223) (lv, [], xenv0, xSM, 21, 0, 0) (xKs xbs_45 21)) = true := by decide +kernel

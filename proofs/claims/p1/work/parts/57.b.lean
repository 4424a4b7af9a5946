def xbs_42 : List xBx := [([(1, 2147483648, 2147483655), (2, 2147483647, 2147483648)], .inl 12), ([(1, 2147483648, 2147483655), (2, 2147483649, 2147483651)], .inl 0), ([], .inl 3294967295)]
theorem xsx_42 : xargs (xvs 2) 0 (fun lv => xrun xMs 200000 xm_216 (xcd xm_216) (lv, [], xenv0, xSX, 761, 0, 0) (xKs xbs_42 761)) = true := by decide +kernel
theorem xsm_42 : xargs (xvs 2) 0 (fun lv => xrun xMs 200000 xm_217 (xcd xm_217) (lv, [], xenv0, xSM, 21, 0, 0) (xKs xbs_42 21)) = true := by decide +kernel

theorem xsm_50_5 : xargs (xvs 3) 0 (fun lv => xrunS xMs flSum 200000 xm_259 (xcd xm_259) (lv, [], xenvp 2147483671 2147483672, xSM, 21, 0, 0) (xKs xbs_50 21)) = true := by decide +kernel

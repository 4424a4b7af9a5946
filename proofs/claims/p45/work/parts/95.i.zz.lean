theorem zz_dummy : True := True.intro

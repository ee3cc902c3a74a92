theorem zz_71_start : True := trivial

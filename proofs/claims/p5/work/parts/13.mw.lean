theorem zz_13 : True := trivial

theorem zz_the_end : True := trivial

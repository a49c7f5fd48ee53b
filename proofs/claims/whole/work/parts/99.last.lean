theorem zq_last : True := trivial

theorem zb1 : True := trivial

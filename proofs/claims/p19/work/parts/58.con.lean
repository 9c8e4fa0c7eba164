theorem zb2 : True := trivial

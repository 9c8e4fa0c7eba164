theorem zb3 : True := trivial

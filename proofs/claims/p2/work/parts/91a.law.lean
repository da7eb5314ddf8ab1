theorem pad_91a : True := trivial

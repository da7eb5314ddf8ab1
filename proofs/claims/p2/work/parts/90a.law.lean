theorem pad_90a : True := trivial

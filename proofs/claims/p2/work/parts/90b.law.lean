theorem pad_90b : True := trivial

theorem pad_31h : True := trivial

theorem pad_42a : True := trivial

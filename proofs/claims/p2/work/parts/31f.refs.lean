theorem pad_31f : True := trivial

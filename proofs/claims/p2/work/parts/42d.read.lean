theorem pad_42d : True := trivial

theorem pad_42f : True := trivial

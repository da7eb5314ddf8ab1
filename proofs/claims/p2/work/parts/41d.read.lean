theorem pad_41d : True := trivial

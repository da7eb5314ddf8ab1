theorem pad_41b : True := trivial

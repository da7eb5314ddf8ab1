theorem pad_41f : True := trivial

theorem pad_41e : True := trivial

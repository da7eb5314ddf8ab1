theorem pad_31i : True := trivial

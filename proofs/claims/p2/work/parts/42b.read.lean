theorem pad_42b : True := trivial

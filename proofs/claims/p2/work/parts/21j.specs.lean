theorem pad_21j : True := trivial

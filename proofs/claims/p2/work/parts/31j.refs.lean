theorem pad_31j : True := trivial

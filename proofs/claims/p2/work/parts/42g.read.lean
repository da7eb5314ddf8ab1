theorem pad_42g : True := trivial

theorem pad_31g : True := trivial

theorem pad_41g : True := trivial

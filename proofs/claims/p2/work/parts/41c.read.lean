theorem pad_41c : True := trivial

theorem pad_40c : True := trivial

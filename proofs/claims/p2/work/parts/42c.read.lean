theorem pad_42c : True := trivial

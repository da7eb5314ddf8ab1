theorem pad_43a : True := trivial

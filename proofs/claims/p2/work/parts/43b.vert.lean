theorem pad_43b : True := trivial

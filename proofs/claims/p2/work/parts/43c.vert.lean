theorem pad_43c : True := trivial

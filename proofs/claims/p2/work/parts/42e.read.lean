theorem pad_42e : True := trivial
